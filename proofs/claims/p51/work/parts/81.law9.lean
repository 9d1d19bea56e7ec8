section LA9
variable {X : XT} {L9 : Nat} {xs : Nat → Int32} {sh : sM} {I : mI} {J : mJ}

variable {D : mF} {P : Option Value → mF → Prop} {PX : String → mF → Prop} {kc ks : Nat}

theorem bn_nn1 (a : Bool) : bn (!a) &&& 1 = bn (!(a || false)) := by cases a <;> rfl
theorem bn_nn0 (a : Bool) : bn (!a) &&& 0 = bn (!(a || true)) := by cases a <;> rfl
theorem OFF_tr {a0 q0 : Nat} {I1 I2 : mI} (h : OFFq a0 q0 I2 I1) (g : ∀ a, ¬ a = a0 → I1 a = I a) : ∀ a, ¬ a = a0 → I2 a = I a := fun a ha => funext fun q => (h a q (fun z => ha z.1)).trans (congrFun (g a ha) q)
theorem FIN_q {I1 : mI} {N ni c s no w : Nat} {kd : Nat → Int} {ow r2 r3 dt : Nat → Nat} {ot : Nat → Nat → Nat} {bar len : Int} {q : Nat} (hq : 137 ≤ q ∧ q < 200) (hI : ∀ a, ¬ a = q → I1 a = I a) (h : FINq sh I J N ni c s no w kd ow r2 r3 dt ot bar len) : FINq sh I1 J N ni c s no w kd ow r2 r3 dt ot bar len := FIN_K (fun a _ => ⟨rfl, rfl⟩) (fun a ha _ _ => hI a (by omega)) h
theorem law_m_3 (hx : HX X L9 xs) {N ni c s no w : Nat} {kd : Nat → Int} {ow r2 r3 dt : Nat → Nat} {ot : Nat → Nat → Nat} {bar len : Int} (hfin : FINq sh I J N ni c s no w kd ow r2 r3 dt ot bar len) {q ln n : Nat} (hsq : sh q = some (.inl (.boolean, 2 ^ (s - ni), 0, fun _ => none))) (hq9 : 137 ≤ q ∧ q < 200) (hln : ln < N) {x : Nat} (hxl : x < 2 ^ (s - ni)) (k1731 : ∀ I1 : mI, OFFq q x I1 I → I1 q x = ((bn (!anyB (fun ch => KP J ch && !hbit J w s ln (chc ni x ch)) (2 ^ ni)) : Nat) : Int) → LXf TT cl6 X mi_W_law (40 + 11) (1000 + 200 * 11) D P PX kc ks 1731 [(33, .int (Int32.ofInt ((x : Nat) : Int))), (32, .ref q), (31, .int (Int32.ofInt ((ln : Nat) : Int))), (30, .int (Int32.ofInt ((n : Nat) : Int))), (26, .int (Int32.ofInt (len))), (19, .int (Int32.ofInt ((fst r2 s ni : Nat) : Int))), (18, .ref 132), (17, .ref 131), (16, .int (Int32.ofInt ((2 ^ (s - ni) : Nat) : Int))), (15, .ref 130), (12, .ref 129), (9, .int (Int32.ofInt ((2 ^ s : Nat) : Int))), (1, .ref 0), (0, .retAddr 1), (2, .int (Int32.ofInt ((1 : Nat) : Int))), (3, .int (Int32.ofInt ((ni : Nat) : Int))), (4, .int (Int32.ofInt ((c : Nat) : Int))), (5, .ref 100), (6, .int (Int32.ofInt ((s : Nat) : Int))), (7, .ref 124), (8, .ref 125)] [] (hp sh I1 J)) : ∀ (d t : Nat) (I1 : mI), t + d = 2 ^ ni → OFFq q x I1 I → I1 q x = ((bn (!anyB (fun ch => KP J ch && !hbit J w s ln (chc ni x ch)) t) : Nat) : Int) → LXf TT cl6 X mi_W_law (40 + 11) (1000 + 200 * 11) D P PX kc ks 1674 [(34, .int (Int32.ofInt ((t : Nat) : Int))), (33, .int (Int32.ofInt ((x : Nat) : Int))), (32, .ref q), (31, .int (Int32.ofInt ((ln : Nat) : Int))), (30, .int (Int32.ofInt ((n : Nat) : Int))), (26, .int (Int32.ofInt (len))), (19, .int (Int32.ofInt ((fst r2 s ni : Nat) : Int))), (18, .ref 132), (17, .ref 131), (16, .int (Int32.ofInt ((2 ^ (s - ni) : Nat) : Int))), (15, .ref 130), (12, .ref 129), (9, .int (Int32.ofInt ((2 ^ s : Nat) : Int))), (1, .ref 0), (0, .retAddr 1), (2, .int (Int32.ofInt ((1 : Nat) : Int))), (3, .int (Int32.ofInt ((ni : Nat) : Int))), (4, .int (Int32.ofInt ((c : Nat) : Int))), (5, .ref 100), (6, .int (Int32.ofInt ((s : Nat) : Int))), (7, .ref 124), (8, .ref 125)] [] (hp sh I1 J) := by
  have hst := hfin.1
  have hL := hst.1
  obtain ⟨hrk, hrw, hSH, hC, hk3, h124, h125, h126, hd5, ho5, hcs, hsw⟩ := id hL
  obtain ⟨ki, kc9, kg, hni1, hnis, hsN, hN23, hs7⟩ := id hrk
  obtain ⟨⟨f, hs0, hf⟩, hr, hR⟩ := id hrw
  have hM := hSH.1
  have hp7 := pow2_7 hs7
  have hp0 := Nat.two_pow_pos s
  obtain ⟨⟨fv, hv1, hv2⟩, hv3, hv4⟩ := hst.2.1
  have hth := hst.2.2.1
  have hkb := hth.2.2.2.2.2.1
  obtain ⟨hsd, hda, hda2⟩ := hfin.2.2.1
  obtain ⟨h130, h131, h132⟩ := hfin.2.2.2.1
  have hkv := hfin.2.2.2.2.1
  have hnv := hfin.2.2.2.2.2
  have hni8 : 2 ^ ni ≤ 8 := Nat.pow_le_pow_right (n := 2) (by decide) hcs.2.1
  have hp9 := pow2_7 (s := s - ni) (by omega)
  have hp90 := Nat.two_pow_pos (s - ni)
  have hps := pow_sp hnis
  intro d
  induction d with
  | zero =>
    intro t I1 hd ho hv
    have ht : t = 2 ^ ni := by omega
    refine lf_iload d_W_law_1674 rfl ?_
    refine lf_iconst d_W_law_1676 (v := Int32.ofInt ((1 : Nat) : Int)) rfl ?_
    refine lf_iload_n d_W_law_1677 rfl rfl ?_
    refine gi_ishlN (a := 1) (s := ni) d_W_law_1678 (by omega) ?_
    refine gi_top (show ((1 * 2 ^ ni : Nat) : Int) = ((2 ^ ni : Nat) : Int) by rw [Nat.one_mul]) ?_
    refine gi_icmp_ge d_W_law_1679 (tgt := 1731) (by decide) (by omega) (fun hb1679 => ?_) (fun hb1679 => False.elim (by omega))
    refine lf_sub [1, 2, 3, 4, 5, 6, 7, 8, 9, 10, 11, 12, 13, 14, 15, 16, 17, 18, 19, 20, 21] rfl ?_
    subst ht
    exact k1731 I1 ho hv
  | succ d ih =>
    intro t I1 hd ho hv
    have ht : t < 2 ^ ni := by omega
    have hcl := chc_lt hnis hxl ht
    obtain ⟨cho, hcho⟩ : ∃ z : Nat, z = chc ni x t := ⟨_, rfl⟩
    rw [← hcho] at hcl
    have hcm : cho % 2 ^ ni = t := by rw [hcho, chc_a ht]; exact cd_mod ht
    have hkp : kpt N s kd r2 r3 bar cho = KP J t := by
      rw [hst.2.2.2.2.1 cho, hcm]
      exact (hst.2.2.2.1 t ht).symm
    have hbv := hbit_vl hth (k := ln) (c := cho) hln hcl
    have vk : I1 130 cho = ((bn (kpt N s kd r2 r3 bar cho) : Nat) : Int) := (ho 130 cho (by omega)).trans (hkv cho hcl)
    have vv : I1 (200 + cho) ln = ((bn (vlw N s kd r2 r3 cho ln) : Nat) : Int) := (ho _ _ (by omega)).trans (hv4 cho ln hcl hln)
    obtain ⟨g, hg⟩ : ∃ g : Bool, g = (kpt N s kd r2 r3 bar cho && !vlw N s kd r2 r3 cho ln) := ⟨_, rfl⟩
    have eF : anyB (fun ch => KP J ch && !hbit J w s ln (chc ni x ch)) (t + 1) = (anyB (fun ch => KP J ch && !hbit J w s ln (chc ni x ch)) t || g) := by
      rw [hg, hkp, ← hbv, hcho]; rfl
    have hle9 := bn_le (!anyB (fun ch => KP J ch && !hbit J w s ln (chc ni x ch)) (t + 1))
    have fin9 : LXf TT cl6 X mi_W_law (40 + 11) (1000 + 200 * 11) D P PX kc ks 1674 [(34, .int (Int32.ofInt (((t + 1) : Nat) : Int))), (33, .int (Int32.ofInt ((x : Nat) : Int))), (32, .ref q), (31, .int (Int32.ofInt ((ln : Nat) : Int))), (30, .int (Int32.ofInt ((n : Nat) : Int))), (26, .int (Int32.ofInt (len))), (19, .int (Int32.ofInt ((fst r2 s ni : Nat) : Int))), (18, .ref 132), (17, .ref 131), (16, .int (Int32.ofInt ((2 ^ (s - ni) : Nat) : Int))), (15, .ref 130), (12, .ref 129), (9, .int (Int32.ofInt ((2 ^ s : Nat) : Int))), (1, .ref 0), (0, .retAddr 1), (2, .int (Int32.ofInt ((1 : Nat) : Int))), (3, .int (Int32.ofInt ((ni : Nat) : Int))), (4, .int (Int32.ofInt ((c : Nat) : Int))), (5, .ref 100), (6, .int (Int32.ofInt ((s : Nat) : Int))), (7, .ref 124), (8, .ref 125)] [] (hp sh (ipt I1 q x ((bn (!anyB (fun ch => KP J ch && !hbit J w s ln (chc ni x ch)) (t + 1)) : Nat) : Int)) J) := ih (t + 1) _ (by omega) (OFF_p ho) ipt_e
    cases ek : kpt N s kd r2 r3 bar cho with
    | false =>
      have ek0 : bn (kpt N s kd r2 r3 bar cho) = 0 := by rw [ek]; rfl
      have gv : g = false := by rw [hg, ek]; rfl
      have isv : ((bn (!anyB (fun ch => KP J ch && !hbit J w s ln (chc ni x ch)) t) &&& 1 : Nat) : Int) = ((bn (!anyB (fun ch => KP J ch && !hbit J w s ln (chc ni x ch)) (t + 1)) : Nat) : Int) := by
        rw [eF, gv]
        exact congrArg Int.ofNat (bn_nn1 _)
      refine lf_iload d_W_law_1674 rfl ?_
      refine lf_iconst d_W_law_1676 (v := Int32.ofInt ((1 : Nat) : Int)) rfl ?_
      refine lf_iload_n d_W_law_1677 rfl rfl ?_
      refine gi_ishlN (a := 1) (s := ni) d_W_law_1678 (by omega) ?_
      refine gi_top (show ((1 * 2 ^ ni : Nat) : Int) = ((2 ^ ni : Nat) : Int) by rw [Nat.one_mul]) ?_
      refine gi_icmp_ge d_W_law_1679 (tgt := 1731) (by decide) (by omega) (fun hb1679 => False.elim (by omega)) (fun hb1679 => ?_)
      refine lf_aload d_W_law_1682 rfl rfl ?_
      refine lf_iload d_W_law_1684 rfl ?_
      refine lf_dup2 d_W_law_1686 rfl rfl ?_
      refine gi_zaloadN d_W_law_1687 hsq (by omega) ?_
      refine gi_top hv ?_
      refine lf_aload d_W_law_1688 rfl rfl ?_
      refine lf_iload d_W_law_1690 rfl ?_
      refine lf_iload_n d_W_law_1692 rfl rfl ?_
      refine gi_ishlN (a := x) (s := ni) d_W_law_1693 (by omega) ?_
      refine lf_iload d_W_law_1694 rfl ?_
      refine gi_iorN (a := (x * 2 ^ ni)) (b := t) d_W_law_1696 ?_
      refine gi_top (show ((x * 2 ^ ni ||| t : Nat) : Int) = ((cho : Nat) : Int) from by rw [hcho]; rfl) ?_
      refine gi_zaloadN d_W_law_1697 h130 (by omega) ?_
      refine gi_top vk ?_
      refine gi_if_eq d_W_law_1698 (tgt := 1718) (by decide) (by omega) (fun hb1698 => ?_) (fun hb1698 => False.elim (by omega))
      refine lf_iconst d_W_law_1718 (v := Int32.ofInt ((1 : Nat) : Int)) rfl ?_
      refine lf_goto d_W_law_1719 (tgt := 1723) (by decide) ?_
      refine gi_iandN (a := (bn (!anyB (fun ch => KP J ch && !hbit J w s ln (chc ni x ch)) t))) (b := 1) d_W_law_1723 ?_
      refine gi_top isv ?_
      refine gi_zastoreN d_W_law_1724 hsq (by omega) (by omega) ?_
      refine gi_iincN d_W_law_1725 rfl (by decide +kernel) (L2 := [(34, _), (33, _), (32, _), (31, _), (30, _), (26, _), (19, _), (18, _), (17, _), (16, _), (15, _), (12, _), (9, _), (1, _), (0, _), (2, _), (3, _), (4, _), (5, _), (6, _), (7, _), (8, _)]) rfl ?_
      refine lf_goto d_W_law_1728 (tgt := 1674) (by decide) ?_
      exact fin9
    | true =>
      have ek0 : bn (kpt N s kd r2 r3 bar cho) = 1 := by rw [ek]; rfl
      cases ev : vlw N s kd r2 r3 cho ln with
      | true =>
        have ev0 : bn (vlw N s kd r2 r3 cho ln) = 1 := by rw [ev]; rfl
        have gv : g = false := by rw [hg, ek, ev]; rfl
        have isv : ((bn (!anyB (fun ch => KP J ch && !hbit J w s ln (chc ni x ch)) t) &&& 1 : Nat) : Int) = ((bn (!anyB (fun ch => KP J ch && !hbit J w s ln (chc ni x ch)) (t + 1)) : Nat) : Int) := by
          rw [eF, gv]
          exact congrArg Int.ofNat (bn_nn1 _)
        refine lf_iload d_W_law_1674 rfl ?_
        refine lf_iconst d_W_law_1676 (v := Int32.ofInt ((1 : Nat) : Int)) rfl ?_
        refine lf_iload_n d_W_law_1677 rfl rfl ?_
        refine gi_ishlN (a := 1) (s := ni) d_W_law_1678 (by omega) ?_
        refine gi_top (show ((1 * 2 ^ ni : Nat) : Int) = ((2 ^ ni : Nat) : Int) by rw [Nat.one_mul]) ?_
        refine gi_icmp_ge d_W_law_1679 (tgt := 1731) (by decide) (by omega) (fun hb1679 => False.elim (by omega)) (fun hb1679 => ?_)
        refine lf_aload d_W_law_1682 rfl rfl ?_
        refine lf_iload d_W_law_1684 rfl ?_
        refine lf_dup2 d_W_law_1686 rfl rfl ?_
        refine gi_zaloadN d_W_law_1687 hsq (by omega) ?_
        refine gi_top hv ?_
        refine lf_aload d_W_law_1688 rfl rfl ?_
        refine lf_iload d_W_law_1690 rfl ?_
        refine lf_iload_n d_W_law_1692 rfl rfl ?_
        refine gi_ishlN (a := x) (s := ni) d_W_law_1693 (by omega) ?_
        refine lf_iload d_W_law_1694 rfl ?_
        refine gi_iorN (a := (x * 2 ^ ni)) (b := t) d_W_law_1696 ?_
        refine gi_top (show ((x * 2 ^ ni ||| t : Nat) : Int) = ((cho : Nat) : Int) from by rw [hcho]; rfl) ?_
        refine gi_zaloadN d_W_law_1697 h130 (by omega) ?_
        refine gi_top vk ?_
        refine gi_if_eq d_W_law_1698 (tgt := 1718) (by decide) (by omega) (fun hb1698 => False.elim (by omega)) (fun hb1698 => ?_)
        refine lf_aload d_W_law_1701 rfl rfl ?_
        refine lf_iload d_W_law_1703 rfl ?_
        refine lf_iload_n d_W_law_1705 rfl rfl ?_
        refine gi_ishlN (a := x) (s := ni) d_W_law_1706 (by omega) ?_
        refine lf_iload d_W_law_1707 rfl ?_
        refine gi_iorN (a := (x * 2 ^ ni)) (b := t) d_W_law_1709 ?_
        refine gi_top (show ((x * 2 ^ ni ||| t : Nat) : Int) = ((cho : Nat) : Int) from by rw [hcho]; rfl) ?_
        refine gi_aald (kd := 0) d_W_law_1710 rfl hv1 (by omega) (hv2 cho (by omega)) ?_
        refine lf_iload d_W_law_1711 rfl ?_
        refine gi_ialoadN d_W_law_1713 (hv3 cho (by omega)) (by omega) ?_
        refine gi_top vv ?_
        refine lf_iconst d_W_law_1714 (v := Int32.ofInt ((1 : Nat) : Int)) rfl ?_
        refine gi_icmp_ne d_W_law_1715 (tgt := 1722) (by decide) (by omega) (fun hb1715 => False.elim (by omega)) (fun hb1715 => ?_)
        refine lf_iconst d_W_law_1718 (v := Int32.ofInt ((1 : Nat) : Int)) rfl ?_
        refine lf_goto d_W_law_1719 (tgt := 1723) (by decide) ?_
        refine gi_iandN (a := (bn (!anyB (fun ch => KP J ch && !hbit J w s ln (chc ni x ch)) t))) (b := 1) d_W_law_1723 ?_
        refine gi_top isv ?_
        refine gi_zastoreN d_W_law_1724 hsq (by omega) (by omega) ?_
        refine gi_iincN d_W_law_1725 rfl (by decide +kernel) (L2 := [(34, _), (33, _), (32, _), (31, _), (30, _), (26, _), (19, _), (18, _), (17, _), (16, _), (15, _), (12, _), (9, _), (1, _), (0, _), (2, _), (3, _), (4, _), (5, _), (6, _), (7, _), (8, _)]) rfl ?_
        refine lf_goto d_W_law_1728 (tgt := 1674) (by decide) ?_
        exact fin9
      | false =>
        have ev0 : bn (vlw N s kd r2 r3 cho ln) = 0 := by rw [ev]; rfl
        have gv : g = true := by rw [hg, ek, ev]; rfl
        have isv : ((bn (!anyB (fun ch => KP J ch && !hbit J w s ln (chc ni x ch)) t) &&& 0 : Nat) : Int) = ((bn (!anyB (fun ch => KP J ch && !hbit J w s ln (chc ni x ch)) (t + 1)) : Nat) : Int) := by
          rw [eF, gv]
          exact congrArg Int.ofNat (bn_nn0 _)
        refine lf_iload d_W_law_1674 rfl ?_
        refine lf_iconst d_W_law_1676 (v := Int32.ofInt ((1 : Nat) : Int)) rfl ?_
        refine lf_iload_n d_W_law_1677 rfl rfl ?_
        refine gi_ishlN (a := 1) (s := ni) d_W_law_1678 (by omega) ?_
        refine gi_top (show ((1 * 2 ^ ni : Nat) : Int) = ((2 ^ ni : Nat) : Int) by rw [Nat.one_mul]) ?_
        refine gi_icmp_ge d_W_law_1679 (tgt := 1731) (by decide) (by omega) (fun hb1679 => False.elim (by omega)) (fun hb1679 => ?_)
        refine lf_aload d_W_law_1682 rfl rfl ?_
        refine lf_iload d_W_law_1684 rfl ?_
        refine lf_dup2 d_W_law_1686 rfl rfl ?_
        refine gi_zaloadN d_W_law_1687 hsq (by omega) ?_
        refine gi_top hv ?_
        refine lf_aload d_W_law_1688 rfl rfl ?_
        refine lf_iload d_W_law_1690 rfl ?_
        refine lf_iload_n d_W_law_1692 rfl rfl ?_
        refine gi_ishlN (a := x) (s := ni) d_W_law_1693 (by omega) ?_
        refine lf_iload d_W_law_1694 rfl ?_
        refine gi_iorN (a := (x * 2 ^ ni)) (b := t) d_W_law_1696 ?_
        refine gi_top (show ((x * 2 ^ ni ||| t : Nat) : Int) = ((cho : Nat) : Int) from by rw [hcho]; rfl) ?_
        refine gi_zaloadN d_W_law_1697 h130 (by omega) ?_
        refine gi_top vk ?_
        refine gi_if_eq d_W_law_1698 (tgt := 1718) (by decide) (by omega) (fun hb1698 => False.elim (by omega)) (fun hb1698 => ?_)
        refine lf_aload d_W_law_1701 rfl rfl ?_
        refine lf_iload d_W_law_1703 rfl ?_
        refine lf_iload_n d_W_law_1705 rfl rfl ?_
        refine gi_ishlN (a := x) (s := ni) d_W_law_1706 (by omega) ?_
        refine lf_iload d_W_law_1707 rfl ?_
        refine gi_iorN (a := (x * 2 ^ ni)) (b := t) d_W_law_1709 ?_
        refine gi_top (show ((x * 2 ^ ni ||| t : Nat) : Int) = ((cho : Nat) : Int) from by rw [hcho]; rfl) ?_
        refine gi_aald (kd := 0) d_W_law_1710 rfl hv1 (by omega) (hv2 cho (by omega)) ?_
        refine lf_iload d_W_law_1711 rfl ?_
        refine gi_ialoadN d_W_law_1713 (hv3 cho (by omega)) (by omega) ?_
        refine gi_top vv ?_
        refine lf_iconst d_W_law_1714 (v := Int32.ofInt ((1 : Nat) : Int)) rfl ?_
        refine gi_icmp_ne d_W_law_1715 (tgt := 1722) (by decide) (by omega) (fun hb1715 => ?_) (fun hb1715 => False.elim (by omega))
        refine lf_iconst d_W_law_1722 (v := Int32.ofInt ((0 : Nat) : Int)) rfl ?_
        refine gi_iandN (a := (bn (!anyB (fun ch => KP J ch && !hbit J w s ln (chc ni x ch)) t))) (b := 0) d_W_law_1723 ?_
        refine gi_top isv ?_
        refine gi_zastoreN d_W_law_1724 hsq (by omega) (by omega) ?_
        refine gi_iincN d_W_law_1725 rfl (by decide +kernel) (L2 := [(34, _), (33, _), (32, _), (31, _), (30, _), (26, _), (19, _), (18, _), (17, _), (16, _), (15, _), (12, _), (9, _), (1, _), (0, _), (2, _), (3, _), (4, _), (5, _), (6, _), (7, _), (8, _)]) rfl ?_
        refine lf_goto d_W_law_1728 (tgt := 1674) (by decide) ?_
        exact fin9
theorem law_m_2 (hx : HX X L9 xs) {N ni c s no w : Nat} {kd : Nat → Int} {ow r2 r3 dt : Nat → Nat} {ot : Nat → Nat → Nat} {bar len : Int} (hfin : FINq sh I J N ni c s no w kd ow r2 r3 dt ot bar len) {q ln n : Nat} (hsq : sh q = some (.inl (.boolean, 2 ^ (s - ni), 0, fun _ => none))) (hq9 : 137 ≤ q ∧ q < 200) (hln : ln < N) (k1737 : ∀ I1 : mI, (∀ a, ¬ a = q → I1 a = I a) ∧ (∀ y, y < 2 ^ (s - ni) → I1 q y = ((bn (al1 J w s ni ln y) : Nat) : Int)) → LXf TT cl6 X mi_W_law (40 + 11) (1000 + 200 * 11) D P PX kc ks 1737 [(32, .ref q), (31, .int (Int32.ofInt ((ln : Nat) : Int))), (30, .int (Int32.ofInt ((n : Nat) : Int))), (26, .int (Int32.ofInt (len))), (19, .int (Int32.ofInt ((fst r2 s ni : Nat) : Int))), (18, .ref 132), (17, .ref 131), (16, .int (Int32.ofInt ((2 ^ (s - ni) : Nat) : Int))), (15, .ref 130), (12, .ref 129), (9, .int (Int32.ofInt ((2 ^ s : Nat) : Int))), (1, .ref 0), (0, .retAddr 1), (2, .int (Int32.ofInt ((1 : Nat) : Int))), (3, .int (Int32.ofInt ((ni : Nat) : Int))), (4, .int (Int32.ofInt ((c : Nat) : Int))), (5, .ref 100), (6, .int (Int32.ofInt ((s : Nat) : Int))), (7, .ref 124), (8, .ref 125)] [] (hp sh I1 J)) : ∀ (d x : Nat) (I1 : mI), x + d = 2 ^ (s - ni) → (∀ a, ¬ a = q → I1 a = I a) ∧ (∀ y, y < x → I1 q y = ((bn (al1 J w s ni ln y) : Nat) : Int)) → LXf TT cl6 X mi_W_law (40 + 11) (1000 + 200 * 11) D P PX kc ks 1658 [(33, .int (Int32.ofInt ((x : Nat) : Int))), (32, .ref q), (31, .int (Int32.ofInt ((ln : Nat) : Int))), (30, .int (Int32.ofInt ((n : Nat) : Int))), (26, .int (Int32.ofInt (len))), (19, .int (Int32.ofInt ((fst r2 s ni : Nat) : Int))), (18, .ref 132), (17, .ref 131), (16, .int (Int32.ofInt ((2 ^ (s - ni) : Nat) : Int))), (15, .ref 130), (12, .ref 129), (9, .int (Int32.ofInt ((2 ^ s : Nat) : Int))), (1, .ref 0), (0, .retAddr 1), (2, .int (Int32.ofInt ((1 : Nat) : Int))), (3, .int (Int32.ofInt ((ni : Nat) : Int))), (4, .int (Int32.ofInt ((c : Nat) : Int))), (5, .ref 100), (6, .int (Int32.ofInt ((s : Nat) : Int))), (7, .ref 124), (8, .ref 125)] [] (hp sh I1 J) := by
  have hst := hfin.1
  have hL := hst.1
  obtain ⟨hrk, hrw, hSH, hC, hk3, h124, h125, h126, hd5, ho5, hcs, hsw⟩ := id hL
  obtain ⟨ki, kc9, kg, hni1, hnis, hsN, hN23, hs7⟩ := id hrk
  obtain ⟨⟨f, hs0, hf⟩, hr, hR⟩ := id hrw
  have hM := hSH.1
  have hp7 := pow2_7 hs7
  have hp0 := Nat.two_pow_pos s
  obtain ⟨⟨fv, hv1, hv2⟩, hv3, hv4⟩ := hst.2.1
  have hth := hst.2.2.1
  have hkb := hth.2.2.2.2.2.1
  obtain ⟨hsd, hda, hda2⟩ := hfin.2.2.1
  obtain ⟨h130, h131, h132⟩ := hfin.2.2.2.1
  have hkv := hfin.2.2.2.2.1
  have hnv := hfin.2.2.2.2.2
  have hni8 : 2 ^ ni ≤ 8 := Nat.pow_le_pow_right (n := 2) (by decide) hcs.2.1
  have hp9 := pow2_7 (s := s - ni) (by omega)
  have hp90 := Nat.two_pow_pos (s - ni)
  have hps := pow_sp hnis
  intro d
  induction d with
  | zero =>
    intro x I1 hd hb
    have hx9 : x = 2 ^ (s - ni) := by omega
    refine lf_iload d_W_law_1658 rfl ?_
    refine lf_iload d_W_law_1660 rfl ?_
    refine gi_icmp_ge d_W_law_1662 (tgt := 1737) (by decide) (by omega) (fun hb1662 => ?_) (fun hb1662 => False.elim (by omega))
    refine lf_sub [1, 2, 3, 4, 5, 6, 7, 8, 9, 10, 11, 12, 13, 14, 15, 16, 17, 18, 19, 20] rfl ?_
    subst hx9
    exact k1737 I1 hb
  | succ d ih =>
    intro x I1 hd hb
    have hxl : x < 2 ^ (s - ni) := by omega
    refine lf_iload d_W_law_1658 rfl ?_
    refine lf_iload d_W_law_1660 rfl ?_
    refine gi_icmp_ge d_W_law_1662 (tgt := 1737) (by decide) (by omega) (fun hb1662 => False.elim (by omega)) (fun hb1662 => ?_)
    refine lf_aload d_W_law_1665 rfl rfl ?_
    refine lf_iload d_W_law_1667 rfl ?_
    refine lf_iconst d_W_law_1669 (v := Int32.ofInt ((1 : Nat) : Int)) rfl ?_
    refine gi_zastoreN d_W_law_1670 hsq (by omega) (by omega) ?_
    refine lf_iconst d_W_law_1671 (v := Int32.ofInt ((0 : Nat) : Int)) rfl ?_
    refine lf_istore d_W_law_1672 (by decide +kernel) (L2 := [(34, _), (33, _), (32, _), (31, _), (30, _), (26, _), (19, _), (18, _), (17, _), (16, _), (15, _), (12, _), (9, _), (1, _), (0, _), (2, _), (3, _), (4, _), (5, _), (6, _), (7, _), (8, _)]) rfl ?_
    have hfin2 : FINq sh (ipt I1 q x ((1 : Nat) : Int)) J N ni c s no w kd ow r2 r3 dt ot bar len := FIN_q hq9 (fun a ha => (ipt_o ha).trans (hb.1 a ha)) hfin
    refine law_m_3 hx hfin2 hsq hq9 hln hxl (fun I2 o2 v2 => ?_) (2 ^ ni) 0 _ (by omega) (fun _ _ _ => rfl) ipt_e
    refine gi_iincN d_W_law_1731 rfl (by decide +kernel) (L2 := [(33, _), (32, _), (31, _), (30, _), (26, _), (19, _), (18, _), (17, _), (16, _), (15, _), (12, _), (9, _), (1, _), (0, _), (2, _), (3, _), (4, _), (5, _), (6, _), (7, _), (8, _)]) rfl ?_
    refine lf_goto d_W_law_1734 (tgt := 1658) (by decide) ?_
    refine ih (x + 1) I2 (by omega) ⟨OFF_tr o2 (fun a ha => (ipt_o ha).trans (hb.1 a ha)), fun y hy => ?_⟩
    by_cases e : y = x
    · rw [e]
      exact v2
    · exact (o2 q y (by omega)).trans (by rw [ipt_s, if_neg e]; exact hb.2 y (by omega))
theorem law_m_1 (hx : HX X L9 xs) {N ni c s no w : Nat} {kd : Nat → Int} {ow r2 r3 dt : Nat → Nat} {ot : Nat → Nat → Nat} {bar len : Int} (hfin : FINq sh I J N ni c s no w kd ow r2 r3 dt ot bar len) {q ln n : Nat} (hsq : sh q = some (.inl (.boolean, 2 ^ (s - ni), 0, fun _ => none))) (hq9 : 137 ≤ q ∧ q < 200) (hln : ln < N) (hal : ∀ y, y < 2 ^ (s - ni) → I q y = ((bn (al1 J w s ni ln y) : Nat) : Int)) (k1800 : LXf TT cl6 X mi_W_law (40 + 11) (1000 + 200 * 11) D P PX kc ks 1800 [(33, .int (Int32.ofInt ((bn (al1 J w s ni ln (fst r2 s ni) && !anyB (ivP J w s ni dt ln) (2 ^ s)) : Nat) : Int))), (32, .ref q), (31, .int (Int32.ofInt ((ln : Nat) : Int))), (30, .int (Int32.ofInt ((n : Nat) : Int))), (26, .int (Int32.ofInt (len))), (19, .int (Int32.ofInt ((fst r2 s ni : Nat) : Int))), (18, .ref 132), (17, .ref 131), (16, .int (Int32.ofInt ((2 ^ (s - ni) : Nat) : Int))), (15, .ref 130), (12, .ref 129), (9, .int (Int32.ofInt ((2 ^ s : Nat) : Int))), (1, .ref 0), (0, .retAddr 1), (2, .int (Int32.ofInt ((1 : Nat) : Int))), (3, .int (Int32.ofInt ((ni : Nat) : Int))), (4, .int (Int32.ofInt ((c : Nat) : Int))), (5, .ref 100), (6, .int (Int32.ofInt ((s : Nat) : Int))), (7, .ref 124), (8, .ref 125)] [] (hp sh I J)) : ∀ (d ch : Nat), ch + d = 2 ^ s → LXf TT cl6 X mi_W_law (40 + 11) (1000 + 200 * 11) D P PX kc ks 1747 [(34, .int (Int32.ofInt ((ch : Nat) : Int))), (33, .int (Int32.ofInt ((bn (al1 J w s ni ln (fst r2 s ni) && !anyB (ivP J w s ni dt ln) ch) : Nat) : Int))), (32, .ref q), (31, .int (Int32.ofInt ((ln : Nat) : Int))), (30, .int (Int32.ofInt ((n : Nat) : Int))), (26, .int (Int32.ofInt (len))), (19, .int (Int32.ofInt ((fst r2 s ni : Nat) : Int))), (18, .ref 132), (17, .ref 131), (16, .int (Int32.ofInt ((2 ^ (s - ni) : Nat) : Int))), (15, .ref 130), (12, .ref 129), (9, .int (Int32.ofInt ((2 ^ s : Nat) : Int))), (1, .ref 0), (0, .retAddr 1), (2, .int (Int32.ofInt ((1 : Nat) : Int))), (3, .int (Int32.ofInt ((ni : Nat) : Int))), (4, .int (Int32.ofInt ((c : Nat) : Int))), (5, .ref 100), (6, .int (Int32.ofInt ((s : Nat) : Int))), (7, .ref 124), (8, .ref 125)] [] (hp sh I J) := by
  have hst := hfin.1
  have hL := hst.1
  obtain ⟨hrk, hrw, hSH, hC, hk3, h124, h125, h126, hd5, ho5, hcs, hsw⟩ := id hL
  obtain ⟨ki, kc9, kg, hni1, hnis, hsN, hN23, hs7⟩ := id hrk
  obtain ⟨⟨f, hs0, hf⟩, hr, hR⟩ := id hrw
  have hM := hSH.1
  have hp7 := pow2_7 hs7
  have hp0 := Nat.two_pow_pos s
  obtain ⟨⟨fv, hv1, hv2⟩, hv3, hv4⟩ := hst.2.1
  have hth := hst.2.2.1
  have hkb := hth.2.2.2.2.2.1
  obtain ⟨hsd, hda, hda2⟩ := hfin.2.2.1
  obtain ⟨h130, h131, h132⟩ := hfin.2.2.2.1
  have hkv := hfin.2.2.2.2.1
  have hnv := hfin.2.2.2.2.2
  have hni8 : 2 ^ ni ≤ 8 := Nat.pow_le_pow_right (n := 2) (by decide) hcs.2.1
  have hp9 := pow2_7 (s := s - ni) (by omega)
  have hp90 := Nat.two_pow_pos (s - ni)
  have hps := pow_sp hnis
  intro d
  induction d with
  | zero =>
    intro ch hd
    have hch : ch = 2 ^ s := by omega
    refine lf_iload d_W_law_1747 rfl ?_
    refine lf_iload d_W_law_1749 rfl ?_
    refine gi_icmp_ge d_W_law_1751 (tgt := 1800) (by decide) (by omega) (fun hb1751 => ?_) (fun hb1751 => False.elim (by omega))
    refine lf_sub [1, 2, 3, 4, 5, 6, 7, 8, 9, 10, 11, 12, 13, 14, 15, 16, 17, 18, 19, 20, 21] rfl ?_
    subst hch
    exact k1800
  | succ d ih =>
    intro ch hd
    have hch : ch < 2 ^ s := by omega
    have hkp : kpt N s kd r2 r3 bar ch = KP J (ch % 2 ^ ni) := by
      rw [hst.2.2.2.2.1 ch]
      exact (hst.2.2.2.1 _ (Nat.mod_lt _ (Nat.two_pow_pos ni))).symm
    have hbv := hbit_vl hth (k := ln) (c := ch) hln hch
    have vk : I 130 ch = ((bn (kpt N s kd r2 r3 bar ch) : Nat) : Int) := hkv ch hch
    have vy : I 131 ch = ((nxt J w s ni dt ch : Nat) : Int) := (hnv ch hch).1
    have hyl : nxt J w s ni dt ch < 2 ^ (s - ni) := nxt_lt
    have vv : I (200 + ch) ln = ((bn (vlw N s kd r2 r3 ch ln) : Nat) : Int) := hv4 ch ln hch hln
    have va : I q (nxt J w s ni dt ch) = ((bn (al1 J w s ni ln (nxt J w s ni dt ch)) : Nat) : Int) := hal _ hyl
    obtain ⟨g, hg⟩ : ∃ g : Bool, g = (kpt N s kd r2 r3 bar ch && !al1 J w s ni ln (nxt J w s ni dt ch) && vlw N s kd r2 r3 ch ln) := ⟨_, rfl⟩
    have eC : anyB (ivP J w s ni dt ln) (ch + 1) = (anyB (ivP J w s ni dt ln) ch || g) := by
      rw [hg, hkp, ← hbv]; rfl
    have fin9 := ih (ch + 1) (by omega)
    cases ek : kpt N s kd r2 r3 bar ch with
    | false =>
      have ek0 : bn (kpt N s kd r2 r3 bar ch) = 0 := by rw [ek]; rfl
      have gv : g = false := by rw [hg, ek]; rfl
      have isv : ((bn (al1 J w s ni ln (fst r2 s ni) && !anyB (ivP J w s ni dt ln) ch) &&& 1 : Nat) : Int) = ((bn (al1 J w s ni ln (fst r2 s ni) && !anyB (ivP J w s ni dt ln) (ch + 1)) : Nat) : Int) := by
        rw [eC, gv]
        exact congrArg Int.ofNat (bn_an1 _ _)
      refine lf_iload d_W_law_1747 rfl ?_
      refine lf_iload d_W_law_1749 rfl ?_
      refine gi_icmp_ge d_W_law_1751 (tgt := 1800) (by decide) (by omega) (fun hb1751 => False.elim (by omega)) (fun hb1751 => ?_)
      refine lf_iload d_W_law_1754 rfl ?_
      refine lf_aload d_W_law_1756 rfl rfl ?_
      refine lf_iload d_W_law_1758 rfl ?_
      refine gi_zaloadN d_W_law_1760 h130 (by omega) ?_
      refine gi_top vk ?_
      refine gi_if_eq d_W_law_1761 (tgt := 1786) (by decide) (by omega) (fun hb1761 => ?_) (fun hb1761 => False.elim (by omega))
      refine lf_iconst d_W_law_1786 (v := Int32.ofInt ((1 : Nat) : Int)) rfl ?_
      refine lf_goto d_W_law_1787 (tgt := 1791) (by decide) ?_
      refine gi_iandN (a := (bn (al1 J w s ni ln (fst r2 s ni) && !anyB (ivP J w s ni dt ln) ch))) (b := 1) d_W_law_1791 ?_
      refine gi_top isv ?_
      refine lf_istore d_W_law_1792 (by decide +kernel) (L2 := [(33, _), (34, _), (32, _), (31, _), (30, _), (26, _), (19, _), (18, _), (17, _), (16, _), (15, _), (12, _), (9, _), (1, _), (0, _), (2, _), (3, _), (4, _), (5, _), (6, _), (7, _), (8, _)]) rfl ?_
      refine gi_iincN d_W_law_1794 rfl (by decide +kernel) (L2 := [(34, _), (33, _), (32, _), (31, _), (30, _), (26, _), (19, _), (18, _), (17, _), (16, _), (15, _), (12, _), (9, _), (1, _), (0, _), (2, _), (3, _), (4, _), (5, _), (6, _), (7, _), (8, _)]) rfl ?_
      refine lf_goto d_W_law_1797 (tgt := 1747) (by decide) ?_
      exact fin9
    | true =>
      have ek0 : bn (kpt N s kd r2 r3 bar ch) = 1 := by rw [ek]; rfl
      cases ev : vlw N s kd r2 r3 ch ln with
      | false =>
        have ev0 : bn (vlw N s kd r2 r3 ch ln) = 0 := by rw [ev]; rfl
        have gv : g = false := by rw [hg, ek, ev, Bool.and_false]
        have isv : ((bn (al1 J w s ni ln (fst r2 s ni) && !anyB (ivP J w s ni dt ln) ch) &&& 1 : Nat) : Int) = ((bn (al1 J w s ni ln (fst r2 s ni) && !anyB (ivP J w s ni dt ln) (ch + 1)) : Nat) : Int) := by
          rw [eC, gv]
          exact congrArg Int.ofNat (bn_an1 _ _)
        refine lf_iload d_W_law_1747 rfl ?_
        refine lf_iload d_W_law_1749 rfl ?_
        refine gi_icmp_ge d_W_law_1751 (tgt := 1800) (by decide) (by omega) (fun hb1751 => False.elim (by omega)) (fun hb1751 => ?_)
        refine lf_iload d_W_law_1754 rfl ?_
        refine lf_aload d_W_law_1756 rfl rfl ?_
        refine lf_iload d_W_law_1758 rfl ?_
        refine gi_zaloadN d_W_law_1760 h130 (by omega) ?_
        refine gi_top vk ?_
        refine gi_if_eq d_W_law_1761 (tgt := 1786) (by decide) (by omega) (fun hb1761 => False.elim (by omega)) (fun hb1761 => ?_)
        refine lf_aload d_W_law_1764 rfl rfl ?_
        refine lf_iload d_W_law_1766 rfl ?_
        refine gi_aald (kd := 0) d_W_law_1768 rfl hv1 (by omega) (hv2 ch (by omega)) ?_
        refine lf_iload d_W_law_1769 rfl ?_
        refine gi_ialoadN d_W_law_1771 (hv3 ch (by omega)) (by omega) ?_
        refine gi_top vv ?_
        refine gi_if_eq d_W_law_1772 (tgt := 1786) (by decide) (by omega) (fun hb1772 => ?_) (fun hb1772 => False.elim (by omega))
        refine lf_iconst d_W_law_1786 (v := Int32.ofInt ((1 : Nat) : Int)) rfl ?_
        refine lf_goto d_W_law_1787 (tgt := 1791) (by decide) ?_
        refine gi_iandN (a := (bn (al1 J w s ni ln (fst r2 s ni) && !anyB (ivP J w s ni dt ln) ch))) (b := 1) d_W_law_1791 ?_
        refine gi_top isv ?_
        refine lf_istore d_W_law_1792 (by decide +kernel) (L2 := [(33, _), (34, _), (32, _), (31, _), (30, _), (26, _), (19, _), (18, _), (17, _), (16, _), (15, _), (12, _), (9, _), (1, _), (0, _), (2, _), (3, _), (4, _), (5, _), (6, _), (7, _), (8, _)]) rfl ?_
        refine gi_iincN d_W_law_1794 rfl (by decide +kernel) (L2 := [(34, _), (33, _), (32, _), (31, _), (30, _), (26, _), (19, _), (18, _), (17, _), (16, _), (15, _), (12, _), (9, _), (1, _), (0, _), (2, _), (3, _), (4, _), (5, _), (6, _), (7, _), (8, _)]) rfl ?_
        refine lf_goto d_W_law_1797 (tgt := 1747) (by decide) ?_
        exact fin9
      | true =>
        have ev0 : bn (vlw N s kd r2 r3 ch ln) = 1 := by rw [ev]; rfl
        cases ea : al1 J w s ni ln (nxt J w s ni dt ch) with
        | true =>
          have ea0 : bn (al1 J w s ni ln (nxt J w s ni dt ch)) = 1 := by rw [ea]; rfl
          have gv : g = false := by rw [hg, ek, ev, ea]; rfl
          have isv : ((bn (al1 J w s ni ln (fst r2 s ni) && !anyB (ivP J w s ni dt ln) ch) &&& 1 : Nat) : Int) = ((bn (al1 J w s ni ln (fst r2 s ni) && !anyB (ivP J w s ni dt ln) (ch + 1)) : Nat) : Int) := by
            rw [eC, gv]
            exact congrArg Int.ofNat (bn_an1 _ _)
          refine lf_iload d_W_law_1747 rfl ?_
          refine lf_iload d_W_law_1749 rfl ?_
          refine gi_icmp_ge d_W_law_1751 (tgt := 1800) (by decide) (by omega) (fun hb1751 => False.elim (by omega)) (fun hb1751 => ?_)
          refine lf_iload d_W_law_1754 rfl ?_
          refine lf_aload d_W_law_1756 rfl rfl ?_
          refine lf_iload d_W_law_1758 rfl ?_
          refine gi_zaloadN d_W_law_1760 h130 (by omega) ?_
          refine gi_top vk ?_
          refine gi_if_eq d_W_law_1761 (tgt := 1786) (by decide) (by omega) (fun hb1761 => False.elim (by omega)) (fun hb1761 => ?_)
          refine lf_aload d_W_law_1764 rfl rfl ?_
          refine lf_iload d_W_law_1766 rfl ?_
          refine gi_aald (kd := 0) d_W_law_1768 rfl hv1 (by omega) (hv2 ch (by omega)) ?_
          refine lf_iload d_W_law_1769 rfl ?_
          refine gi_ialoadN d_W_law_1771 (hv3 ch (by omega)) (by omega) ?_
          refine gi_top vv ?_
          refine gi_if_eq d_W_law_1772 (tgt := 1786) (by decide) (by omega) (fun hb1772 => False.elim (by omega)) (fun hb1772 => ?_)
          refine lf_aload d_W_law_1775 rfl rfl ?_
          refine lf_aload d_W_law_1777 rfl rfl ?_
          refine lf_iload d_W_law_1779 rfl ?_
          refine gi_ialoadN d_W_law_1781 h131 (by omega) ?_
          refine gi_top vy ?_
          refine gi_zaloadN d_W_law_1782 hsq (by omega) ?_
          refine gi_top va ?_
          refine gi_if_eq d_W_law_1783 (tgt := 1790) (by decide) (by omega) (fun hb1783 => False.elim (by omega)) (fun hb1783 => ?_)
          refine lf_iconst d_W_law_1786 (v := Int32.ofInt ((1 : Nat) : Int)) rfl ?_
          refine lf_goto d_W_law_1787 (tgt := 1791) (by decide) ?_
          refine gi_iandN (a := (bn (al1 J w s ni ln (fst r2 s ni) && !anyB (ivP J w s ni dt ln) ch))) (b := 1) d_W_law_1791 ?_
          refine gi_top isv ?_
          refine lf_istore d_W_law_1792 (by decide +kernel) (L2 := [(33, _), (34, _), (32, _), (31, _), (30, _), (26, _), (19, _), (18, _), (17, _), (16, _), (15, _), (12, _), (9, _), (1, _), (0, _), (2, _), (3, _), (4, _), (5, _), (6, _), (7, _), (8, _)]) rfl ?_
          refine gi_iincN d_W_law_1794 rfl (by decide +kernel) (L2 := [(34, _), (33, _), (32, _), (31, _), (30, _), (26, _), (19, _), (18, _), (17, _), (16, _), (15, _), (12, _), (9, _), (1, _), (0, _), (2, _), (3, _), (4, _), (5, _), (6, _), (7, _), (8, _)]) rfl ?_
          refine lf_goto d_W_law_1797 (tgt := 1747) (by decide) ?_
          exact fin9
        | false =>
          have ea0 : bn (al1 J w s ni ln (nxt J w s ni dt ch)) = 0 := by rw [ea]; rfl
          have gv : g = true := by rw [hg, ek, ev, ea]; rfl
          have isv : ((bn (al1 J w s ni ln (fst r2 s ni) && !anyB (ivP J w s ni dt ln) ch) &&& 0 : Nat) : Int) = ((bn (al1 J w s ni ln (fst r2 s ni) && !anyB (ivP J w s ni dt ln) (ch + 1)) : Nat) : Int) := by
            rw [eC, gv]
            exact congrArg Int.ofNat (bn_an0 _ _)
          refine lf_iload d_W_law_1747 rfl ?_
          refine lf_iload d_W_law_1749 rfl ?_
          refine gi_icmp_ge d_W_law_1751 (tgt := 1800) (by decide) (by omega) (fun hb1751 => False.elim (by omega)) (fun hb1751 => ?_)
          refine lf_iload d_W_law_1754 rfl ?_
          refine lf_aload d_W_law_1756 rfl rfl ?_
          refine lf_iload d_W_law_1758 rfl ?_
          refine gi_zaloadN d_W_law_1760 h130 (by omega) ?_
          refine gi_top vk ?_
          refine gi_if_eq d_W_law_1761 (tgt := 1786) (by decide) (by omega) (fun hb1761 => False.elim (by omega)) (fun hb1761 => ?_)
          refine lf_aload d_W_law_1764 rfl rfl ?_
          refine lf_iload d_W_law_1766 rfl ?_
          refine gi_aald (kd := 0) d_W_law_1768 rfl hv1 (by omega) (hv2 ch (by omega)) ?_
          refine lf_iload d_W_law_1769 rfl ?_
          refine gi_ialoadN d_W_law_1771 (hv3 ch (by omega)) (by omega) ?_
          refine gi_top vv ?_
          refine gi_if_eq d_W_law_1772 (tgt := 1786) (by decide) (by omega) (fun hb1772 => False.elim (by omega)) (fun hb1772 => ?_)
          refine lf_aload d_W_law_1775 rfl rfl ?_
          refine lf_aload d_W_law_1777 rfl rfl ?_
          refine lf_iload d_W_law_1779 rfl ?_
          refine gi_ialoadN d_W_law_1781 h131 (by omega) ?_
          refine gi_top vy ?_
          refine gi_zaloadN d_W_law_1782 hsq (by omega) ?_
          refine gi_top va ?_
          refine gi_if_eq d_W_law_1783 (tgt := 1790) (by decide) (by omega) (fun hb1783 => ?_) (fun hb1783 => False.elim (by omega))
          refine lf_iconst d_W_law_1790 (v := Int32.ofInt ((0 : Nat) : Int)) rfl ?_
          refine gi_iandN (a := (bn (al1 J w s ni ln (fst r2 s ni) && !anyB (ivP J w s ni dt ln) ch))) (b := 0) d_W_law_1791 ?_
          refine gi_top isv ?_
          refine lf_istore d_W_law_1792 (by decide +kernel) (L2 := [(33, _), (34, _), (32, _), (31, _), (30, _), (26, _), (19, _), (18, _), (17, _), (16, _), (15, _), (12, _), (9, _), (1, _), (0, _), (2, _), (3, _), (4, _), (5, _), (6, _), (7, _), (8, _)]) rfl ?_
          refine gi_iincN d_W_law_1794 rfl (by decide +kernel) (L2 := [(34, _), (33, _), (32, _), (31, _), (30, _), (26, _), (19, _), (18, _), (17, _), (16, _), (15, _), (12, _), (9, _), (1, _), (0, _), (2, _), (3, _), (4, _), (5, _), (6, _), (7, _), (8, _)]) rfl ?_
          refine lf_goto d_W_law_1797 (tgt := 1747) (by decide) ?_
          exact fin9
theorem law_m_o (hx : HX X L9 xs) {N ni c s no w : Nat} {kd : Nat → Int} {ow r2 r3 dt : Nat → Nat} {ot : Nat → Nat → Nat} {bar len : Int} (hfin : FINq sh I J N ni c s no w kd ow r2 r3 dt ot bar len) (k1833 : ∀ (s1 : sM) (I1 : mI) (J1 : mJ), FINq s1 I1 J1 N ni c s no w kd ow r2 r3 dt ot bar len → LXf TT cl6 X mi_W_law (40 + 11) (1000 + 200 * 11) D P PX kc ks 1833 [(26, .int (Int32.ofInt (len))), (19, .int (Int32.ofInt ((fst r2 s ni : Nat) : Int))), (18, .ref 132), (17, .ref 131), (16, .int (Int32.ofInt ((2 ^ (s - ni) : Nat) : Int))), (15, .ref 130), (12, .ref 129), (9, .int (Int32.ofInt ((2 ^ s : Nat) : Int))), (1, .ref 0), (0, .retAddr 1), (2, .int (Int32.ofInt ((1 : Nat) : Int))), (3, .int (Int32.ofInt ((ni : Nat) : Int))), (4, .int (Int32.ofInt ((c : Nat) : Int))), (5, .ref 100), (6, .int (Int32.ofInt ((s : Nat) : Int))), (7, .ref 124), (8, .ref 125)] [] (hp s1 I1 J1)) : ∀ (d n : Nat) (s1 : sM) (I1 : mI) (J1 : mJ), n + d = 5 → (∀ a, (a < 137 ∨ 200 ≤ a) → s1 a = sh a ∧ J1 a = J a) ∧ (∀ a, (a < 137 ∨ 200 ≤ a) → ¬ a = 42 → ¬ a = 43 → I1 a = I a) ∧ (∀ a, 141 + n ≤ a → a < 200 → s1 a = none) → LXf TT cl6 X mi_W_law (40 + 11) (1000 + 200 * 11) D P PX (d + kc) (128 * d + ks) 1628 [(30, .int (Int32.ofInt ((n : Nat) : Int))), (26, .int (Int32.ofInt (len))), (19, .int (Int32.ofInt ((fst r2 s ni : Nat) : Int))), (18, .ref 132), (17, .ref 131), (16, .int (Int32.ofInt ((2 ^ (s - ni) : Nat) : Int))), (15, .ref 130), (12, .ref 129), (9, .int (Int32.ofInt ((2 ^ s : Nat) : Int))), (1, .ref 0), (0, .retAddr 1), (2, .int (Int32.ofInt ((1 : Nat) : Int))), (3, .int (Int32.ofInt ((ni : Nat) : Int))), (4, .int (Int32.ofInt ((c : Nat) : Int))), (5, .ref 100), (6, .int (Int32.ofInt ((s : Nat) : Int))), (7, .ref 124), (8, .ref 125)] [] (hp s1 I1 J1) := by
  intro d
  induction d with
  | zero =>
    intro n s1 I1 J1 hd hb
    obtain ⟨b1, b2, b3⟩ := id hb
    obtain rfl : n = 5 := by omega
    refine lf_room (kc1 := kc) (ks1 := ks) (by omega) (by omega) ?_
    refine lf_iload d_W_law_1628 rfl ?_
    refine lf_iconst d_W_law_1630 (v := Int32.ofInt ((5 : Nat) : Int)) rfl ?_
    refine gi_icmp_ge d_W_law_1631 (tgt := 1833) (by decide) (by omega) (fun hb1631 => ?_) (fun hb1631 => False.elim (by omega))
    refine lf_sub [1, 2, 3, 4, 5, 6, 7, 8, 9, 10, 11, 12, 13, 14, 15, 16, 17] rfl ?_
    exact k1833 s1 I1 J1 (FIN_K b1 b2 hfin)
  | succ d ih =>
    intro n s1 I1 J1 hd hb
    obtain ⟨b1, b2, b3⟩ := id hb
    have hfin1 := FIN_K b1 b2 hfin
    have hst := hfin1.1
    have hL := hst.1
    obtain ⟨hrk, hrw, hSH, hC, hk3, h124, h125, h126, hd5, ho5, hcs, hsw⟩ := id hL
    obtain ⟨ki, kc9, kg, hni1, hnis, hsN, hN23, hs7⟩ := id hrk
    obtain ⟨⟨f, hs0, hf⟩, hr, hR⟩ := id hrw
    have hM := hSH.1
    have hp7 := pow2_7 hs7
    have hp0 := Nat.two_pow_pos s
    obtain ⟨⟨fv, hv1, hv2⟩, hv3, hv4⟩ := hst.2.1
    have hth := hst.2.2.1
    have hkb := hth.2.2.2.2.2.1
    obtain ⟨hsd, hda, hda2⟩ := hfin1.2.2.1
    obtain ⟨h130, h131, h132⟩ := hfin1.2.2.2.1
    have hkv := hfin1.2.2.2.2.1
    have hnv := hfin1.2.2.2.2.2
    have hni8 : 2 ^ ni ≤ 8 := Nat.pow_le_pow_right (n := 2) (by decide) hcs.2.1
    have hp9 := pow2_7 (s := s - ni) (by omega)
    have hp90 := Nat.two_pow_pos (s - ni)
    have hps := pow_sp hnis
    refine lf_room (kc1 := (d + kc) + 1) (ks1 := (128 * d + ks) + 128) (by omega) (by omega) ?_
    refine lf_iload d_W_law_1628 rfl ?_
    refine lf_iconst d_W_law_1630 (v := Int32.ofInt ((5 : Nat) : Int)) rfl ?_
    refine gi_icmp_ge d_W_law_1631 (tgt := 1833) (by decide) (by omega) (fun hb1631 => False.elim (by omega)) (fun hb1631 => ?_)
    refine lf_aload_n d_W_law_1634 rfl rfl rfl ?_
    refine lf_sipush d_W_law_1635 (v := Int32.ofInt ((380 : Nat) : Int)) (by decide +kernel) ?_
    refine lf_iload d_W_law_1638 rfl ?_
    refine gi_iaddN (a := 380) (b := n) d_W_law_1640 ?_
    refine lf_aload d_W_law_1641 rfl rfl ?_
    refine gi_len d_W_law_1643 hs0 ?_
    refine gw_callI s_W_law_1644 (w_in hx (i := 380 + n) (n := N) (by omega) (by omega) (by omega)) (S := []) rfl rfl gcR_1 (by decide) (by decide +kernel) (Nat.le_of_ble_eq_true rfl) (fun r1644 I1644 J1644 w1644 => ?_)
    obtain ⟨⟨ln, hln, rfl⟩, hi9, hj9⟩ := w1644
    rw [hi9, hj9]
    clear hi9 hj9
    refine lf_istore d_W_law_1647 (by decide +kernel) (L2 := [(31, _), (30, _), (26, _), (19, _), (18, _), (17, _), (16, _), (15, _), (12, _), (9, _), (1, _), (0, _), (2, _), (3, _), (4, _), (5, _), (6, _), (7, _), (8, _)]) rfl ?_
    refine lf_iload d_W_law_1649 rfl ?_
    refine gi_newB_boolean d_W_law_1651 tA_boolean (m := (2 ^ (s - ni))) (B := 128) (q := (141 + n)) (by omega) (by decide) (b3 _ (by omega) (by omega)) ?_
    refine lf_astore d_W_law_1653 (by decide +kernel) rfl (L2 := [(32, _), (31, _), (30, _), (26, _), (19, _), (18, _), (17, _), (16, _), (15, _), (12, _), (9, _), (1, _), (0, _), (2, _), (3, _), (4, _), (5, _), (6, _), (7, _), (8, _)]) rfl ?_
    refine lf_iconst d_W_law_1655 (v := Int32.ofInt ((0 : Nat) : Int)) rfl ?_
    refine lf_istore d_W_law_1656 (by decide +kernel) (L2 := [(33, _), (32, _), (31, _), (30, _), (26, _), (19, _), (18, _), (17, _), (16, _), (15, _), (12, _), (9, _), (1, _), (0, _), (2, _), (3, _), (4, _), (5, _), (6, _), (7, _), (8, _)]) rfl ?_
    have hlo : ∀ a, (a < 137 ∨ 200 ≤ a) → (spt s1 (141 + n) (.inl (.boolean, 2 ^ (s - ni), 0, fun _ => none))) a = s1 a ∧ jzr J1 (141 + n) a = J1 a := fun a ha => ⟨spt_o (by omega), jzr_o (by omega)⟩
    have hfin2 : FINq (spt s1 (141 + n) (.inl (.boolean, 2 ^ (s - ni), 0, fun _ => none))) (izr I1 (141 + n)) (jzr J1 (141 + n)) N ni c s no w kd ow r2 r3 dt ot bar len := FIN_K hlo (fun a ha _ _ => izr_o (by omega)) hfin1
    refine law_m_2 hx hfin2 spt_s (by omega) hln (fun I2 hb2 => ?_) (2 ^ (s - ni)) 0 _ (by omega) ⟨fun a _ => rfl, fun y hy => absurd hy (Nat.not_lt_zero y)⟩
    obtain ⟨c1, c2⟩ := hb2
    have hfin3 : FINq (spt s1 (141 + n) (.inl (.boolean, 2 ^ (s - ni), 0, fun _ => none))) I2 (jzr J1 (141 + n)) N ni c s no w kd ow r2 r3 dt ot bar len := FIN_q (q := 141 + n) (by omega) c1 hfin2
    have hfl : fst r2 s ni < 2 ^ (s - ni) := fst_lt (fun j a b => (kc9 j a b).2.2.1)
    refine lf_aload d_W_law_1737 rfl rfl ?_
    refine lf_iload d_W_law_1739 rfl ?_
    refine gi_zaloadN d_W_law_1741 spt_s (by omega) ?_
    refine gi_top (c2 _ hfl) ?_
    refine lf_istore d_W_law_1742 (by decide +kernel) (L2 := [(33, _), (32, _), (31, _), (30, _), (26, _), (19, _), (18, _), (17, _), (16, _), (15, _), (12, _), (9, _), (1, _), (0, _), (2, _), (3, _), (4, _), (5, _), (6, _), (7, _), (8, _)]) rfl ?_
    refine lf_iconst d_W_law_1744 (v := Int32.ofInt ((0 : Nat) : Int)) rfl ?_
    refine lf_istore d_W_law_1745 (by decide +kernel) (L2 := [(34, _), (33, _), (32, _), (31, _), (30, _), (26, _), (19, _), (18, _), (17, _), (16, _), (15, _), (12, _), (9, _), (1, _), (0, _), (2, _), (3, _), (4, _), (5, _), (6, _), (7, _), (8, _)]) rfl ?_
    refine lf_eqL (L1 := [(34, .int (Int32.ofInt ((0 : Nat) : Int))), (33, .int (Int32.ofInt ((bn (al1 (jzr J1 (141 + n)) w s ni ln (fst r2 s ni) && !anyB (ivP (jzr J1 (141 + n)) w s ni dt ln) 0) : Nat) : Int))), (32, .ref (141 + n)), (31, .int (Int32.ofInt ((ln : Nat) : Int))), (30, .int (Int32.ofInt ((n : Nat) : Int))), (26, .int (Int32.ofInt (len))), (19, .int (Int32.ofInt ((fst r2 s ni : Nat) : Int))), (18, .ref 132), (17, .ref 131), (16, .int (Int32.ofInt ((2 ^ (s - ni) : Nat) : Int))), (15, .ref 130), (12, .ref 129), (9, .int (Int32.ofInt ((2 ^ s : Nat) : Int))), (1, .ref 0), (0, .retAddr 1), (2, .int (Int32.ofInt ((1 : Nat) : Int))), (3, .int (Int32.ofInt ((ni : Nat) : Int))), (4, .int (Int32.ofInt ((c : Nat) : Int))), (5, .ref 100), (6, .int (Int32.ofInt ((s : Nat) : Int))), (7, .ref 124), (8, .ref 125)]) (by rw [show bn (al1 (jzr J1 (141 + n)) w s ni ln (fst r2 s ni)) = bn (al1 (jzr J1 (141 + n)) w s ni ln (fst r2 s ni) && !anyB (ivP (jzr J1 (141 + n)) w s ni dt ln) 0) from by rw [show anyB (ivP (jzr J1 (141 + n)) w s ni dt ln) 0 = false from rfl, Bool.not_false, Bool.and_true]]) ?_
    refine law_m_1 hx hfin3 spt_s (by omega) hln c2 ?_ (2 ^ s) 0 (by omega)
    cases eF : al1 (jzr J1 (141 + n)) w s ni ln (fst r2 s ni) && !anyB (ivP (jzr J1 (141 + n)) w s ni dt ln) (2 ^ s) with
    | true =>
      have eF0 : bn true = 1 := rfl
      refine lf_iload_n d_W_law_1800 rfl rfl ?_
      refine lf_aload_n d_W_law_1801 rfl rfl rfl ?_
      refine lf_iload d_W_law_1802 rfl ?_
      refine gw_callI s_W_law_1804 (w_isInvariant hx hfin3.1.1.2.2.1.1 (m_isInvariant hx hfin3.1.1.2.2.1 hfin3.1.1.2.2.2.1 (fun ch hc => by omega) hfin3.2.1.1 (k := ln) hln) (fun r I9 J9 h9 => by rw [h9.1]; exact bz01 _) (lev := 10) (by decide)) (S := [_]) rfl rfl gcR_1 (by decide) (by decide +kernel) (Nat.le_of_ble_eq_true rfl) (fun r1804 I1804 J1804 w1804 => ?_)
      obtain ⟨hr, g1, hj9⟩ := w1804
      rw [hr, hj9, eF, bz_bn]
      clear hr hj9
      refine lf_iload d_W_law_1807 rfl ?_
      refine gi_if_eq d_W_law_1809 (tgt := 1816) (by decide) (by omega) (fun hb1809 => False.elim (by omega)) (fun hb1809 => ?_)
      refine lf_iconst d_W_law_1812 (v := Int32.ofInt ((1 : Nat) : Int)) rfl ?_
      refine lf_goto d_W_law_1813 (tgt := 1817) (by decide) ?_
      refine gi_icmp_ne d_W_law_1817 (tgt := 1824) (by decide) (by omega) (fun hb1817 => False.elim (by omega)) (fun hb1817 => ?_)
      refine lf_iconst d_W_law_1820 (v := Int32.ofInt ((1 : Nat) : Int)) rfl ?_
      refine lf_goto d_W_law_1821 (tgt := 1825) (by decide) ?_
      refine gi_iandN (a := 1) (b := 1) d_W_law_1825 ?_
      refine gi_top rfl ?_
      refine lf_istore_n d_W_law_1826 rfl (by decide +kernel) (L2 := [(2, _), (33, _), (32, _), (31, _), (30, _), (26, _), (19, _), (18, _), (17, _), (16, _), (15, _), (12, _), (9, _), (1, _), (0, _), (3, _), (4, _), (5, _), (6, _), (7, _), (8, _)]) rfl ?_
      refine gi_iincN d_W_law_1827 rfl (by decide +kernel) (L2 := [(30, _), (2, _), (33, _), (32, _), (31, _), (26, _), (19, _), (18, _), (17, _), (16, _), (15, _), (12, _), (9, _), (1, _), (0, _), (3, _), (4, _), (5, _), (6, _), (7, _), (8, _)]) rfl ?_
      refine lf_goto d_W_law_1830 (tgt := 1628) (by decide) ?_
      refine lf_sub [0, 5, 6, 7, 8, 9, 10, 11, 12, 13, 14, 1, 15, 16, 17, 18, 19, 20] rfl ?_
      exact ih (n + 1) _ I1804 _ (by omega) ⟨fun a ha => ⟨(hlo a ha).1.trans (b1 a ha).1, (hlo a ha).2.trans (b1 a ha).2⟩, fun a ha h42 h43 => (g1 a h42).trans ((c1 a (by omega)).trans ((izr_o (by omega)).trans (b2 a ha h42 h43))), fun a h1 h2 => (spt_o (by omega)).trans (b3 a (by omega) h2)⟩
    | false =>
      have eF0 : bn false = 0 := rfl
      refine lf_iload_n d_W_law_1800 rfl rfl ?_
      refine lf_aload_n d_W_law_1801 rfl rfl rfl ?_
      refine lf_iload d_W_law_1802 rfl ?_
      refine gw_callI s_W_law_1804 (w_isInvariant hx hfin3.1.1.2.2.1.1 (m_isInvariant hx hfin3.1.1.2.2.1 hfin3.1.1.2.2.2.1 (fun ch hc => by omega) hfin3.2.1.1 (k := ln) hln) (fun r I9 J9 h9 => by rw [h9.1]; exact bz01 _) (lev := 10) (by decide)) (S := [_]) rfl rfl gcR_1 (by decide) (by decide +kernel) (Nat.le_of_ble_eq_true rfl) (fun r1804 I1804 J1804 w1804 => ?_)
      obtain ⟨hr, g1, hj9⟩ := w1804
      rw [hr, hj9, eF, bz_bn]
      clear hr hj9
      refine lf_iload d_W_law_1807 rfl ?_
      refine gi_if_eq d_W_law_1809 (tgt := 1816) (by decide) (by omega) (fun hb1809 => ?_) (fun hb1809 => False.elim (by omega))
      refine lf_iconst d_W_law_1816 (v := Int32.ofInt ((0 : Nat) : Int)) rfl ?_
      refine gi_icmp_ne d_W_law_1817 (tgt := 1824) (by decide) (by omega) (fun hb1817 => False.elim (by omega)) (fun hb1817 => ?_)
      refine lf_iconst d_W_law_1820 (v := Int32.ofInt ((1 : Nat) : Int)) rfl ?_
      refine lf_goto d_W_law_1821 (tgt := 1825) (by decide) ?_
      refine gi_iandN (a := 1) (b := 1) d_W_law_1825 ?_
      refine gi_top rfl ?_
      refine lf_istore_n d_W_law_1826 rfl (by decide +kernel) (L2 := [(2, _), (33, _), (32, _), (31, _), (30, _), (26, _), (19, _), (18, _), (17, _), (16, _), (15, _), (12, _), (9, _), (1, _), (0, _), (3, _), (4, _), (5, _), (6, _), (7, _), (8, _)]) rfl ?_
      refine gi_iincN d_W_law_1827 rfl (by decide +kernel) (L2 := [(30, _), (2, _), (33, _), (32, _), (31, _), (26, _), (19, _), (18, _), (17, _), (16, _), (15, _), (12, _), (9, _), (1, _), (0, _), (3, _), (4, _), (5, _), (6, _), (7, _), (8, _)]) rfl ?_
      refine lf_goto d_W_law_1830 (tgt := 1628) (by decide) ?_
      refine lf_sub [0, 5, 6, 7, 8, 9, 10, 11, 12, 13, 14, 1, 15, 16, 17, 18, 19, 20] rfl ?_
      exact ih (n + 1) _ I1804 _ (by omega) ⟨fun a ha => ⟨(hlo a ha).1.trans (b1 a ha).1, (hlo a ha).2.trans (b1 a ha).2⟩, fun a ha h42 h43 => (g1 a h42).trans ((c1 a (by omega)).trans ((izr_o (by omega)).trans (b2 a ha h42 h43))), fun a h1 h2 => (spt_o (by omega)).trans (b3 a (by omega) h2)⟩
theorem law_m (hx : HX X L9 xs) {N ni c s no w : Nat} {kd : Nat → Int} {ow r2 r3 dt : Nat → Nat} {ot : Nat → Nat → Nat} {bar len : Int} (hfin : FINq sh I J N ni c s no w kd ow r2 r3 dt ot bar len) (hfr : ∀ a, 141 ≤ a → a < 200 → sh a = none) (k1833 : ∀ (s1 : sM) (I1 : mI) (J1 : mJ), FINq s1 I1 J1 N ni c s no w kd ow r2 r3 dt ot bar len → LXf TT cl6 X mi_W_law (40 + 11) (1000 + 200 * 11) D P PX kc ks 1833 [(26, .int (Int32.ofInt (len))), (19, .int (Int32.ofInt ((fst r2 s ni : Nat) : Int))), (18, .ref 132), (17, .ref 131), (16, .int (Int32.ofInt ((2 ^ (s - ni) : Nat) : Int))), (15, .ref 130), (12, .ref 129), (9, .int (Int32.ofInt ((2 ^ s : Nat) : Int))), (1, .ref 0), (0, .retAddr 1), (2, .int (Int32.ofInt ((1 : Nat) : Int))), (3, .int (Int32.ofInt ((ni : Nat) : Int))), (4, .int (Int32.ofInt ((c : Nat) : Int))), (5, .ref 100), (6, .int (Int32.ofInt ((s : Nat) : Int))), (7, .ref 124), (8, .ref 125)] [] (hp s1 I1 J1)) : LXf TT cl6 X mi_W_law (40 + 11) (1000 + 200 * 11) D P PX (kc + 5) (ks + 640) 1625 [(26, .int (Int32.ofInt (len))), (19, .int (Int32.ofInt ((fst r2 s ni : Nat) : Int))), (18, .ref 132), (17, .ref 131), (16, .int (Int32.ofInt ((2 ^ (s - ni) : Nat) : Int))), (15, .ref 130), (12, .ref 129), (9, .int (Int32.ofInt ((2 ^ s : Nat) : Int))), (1, .ref 0), (0, .retAddr 1), (2, .int (Int32.ofInt ((1 : Nat) : Int))), (3, .int (Int32.ofInt ((ni : Nat) : Int))), (4, .int (Int32.ofInt ((c : Nat) : Int))), (5, .ref 100), (6, .int (Int32.ofInt ((s : Nat) : Int))), (7, .ref 124), (8, .ref 125)] [] (hp sh I J) := by
  refine lf_room (kc1 := 5 + kc) (ks1 := 128 * 5 + ks) (by omega) (by omega) ?_
  refine lf_iconst d_W_law_1625 (v := Int32.ofInt ((0 : Nat) : Int)) rfl ?_
  refine lf_istore d_W_law_1626 (by decide +kernel) (L2 := [(30, _), (26, _), (19, _), (18, _), (17, _), (16, _), (15, _), (12, _), (9, _), (1, _), (0, _), (2, _), (3, _), (4, _), (5, _), (6, _), (7, _), (8, _)]) rfl ?_
  exact law_m_o hx hfin k1833 5 0 sh I J (by omega) ⟨fun a _ => ⟨rfl, rfl⟩, fun a _ _ _ => rfl, fun a h1 h2 => hfr a (by omega) h2⟩
end LA9
