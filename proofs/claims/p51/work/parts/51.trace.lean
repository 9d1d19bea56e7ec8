section TT17
variable {X : XT} {L9 : Nat} {xs : Nat → Int32} {sh : sM} {I : mI} {J : mJ}

variable {D : mF} {P : Option Value → mF → Prop} {PX : String → mF → Prop} {kc ks : Nat}

theorem unl2_o {w s no c : Nat} {ot : Nat → Nat → Nat} (h : unl2 J w s ot no c = true) : ¬ out J w s ot no 0 c = out J w s ot no 1 c := by
  intro e
  unfold unl2 at h
  rw [decide_eq_true e] at h
  cases h
theorem BI_srch {n w s ni no : Nat} {fi dt : Nat → Nat} {ot : Nat → Nat → Nat} (hnt : NT I n s ni no fi dt ot) (k : Nat) : BI (KP J) (NX J w s ni dt) (UL J w s ni ot no) (2 ^ ni) (fst fi s ni) (2 ^ (s - ni)) (bfs (KP J) (NX J w s ni dt) (UL J w s ni ot no) (2 ^ ni) (fst fi s ni) k) :=
  BI_bfs (fst_lt (fun j h1 h2 => (hnt.2.2.2.1 j h1 h2).2.2.2)) (Nat.two_pow_pos ni) (fun x ch _ _ => nxt_lt) k
theorem t_tr_l (hx : HX X L9 xs) (hN : clN sh) {cc : Nat} {n w s : Nat} (hV : clV sh n w) (hn2 : n ≤ 80) (hs : I 15 1 = s) (hw : I 15 2 = w) (hsw : (s ≤ 6 ∧ w = 1) ∨ (s = 7 ∧ w = 2)) {ni no : Nat} {fi dt : Nat → Nat} {ot : Nat → Nat → Nat} (hT : clT sh cc (2 ^ (s - ni))) (hcc : cc = 2 ^ s) (hnt : NT I n s ni no fi dt ot) (hi9 : I 24 2 = ni) {b : BST} (hb : BI (KP J) (NX J w s ni dt) (UL J w s ni ot no) (2 ^ ni) (fst fi s ni) (2 ^ (s - ni)) b) {x ch : Nat} (hxs : bS b x = true) (hda : I 24 15 = bD b x) (htr : TRC I b x ch) (k38 : LXf TT cl6 X mi_T_isTraceRight (40 + 4) (1000 + 200 * 4) D P PX kc ks 38 [(2, .int (Int32.ofInt ((bD b x : Nat) : Int))), (1, .int (Int32.ofInt ((it (bF b) (bD b x - (bD b x)) x : Nat) : Int))), (0, .ref 24)] [] (hp sh I J)) : ∀ (d k : Nat), k + d = bD b x → LXf TT cl6 X mi_T_isTraceRight (40 + 4) (1000 + 200 * 4) D P PX kc ks 7 [(2, .int (Int32.ofInt ((k : Nat) : Int))), (1, .int (Int32.ofInt ((it (bF b) (bD b x - (k)) x : Nat) : Int))), (0, .ref 24)] [] (hp sh I J) := by
  have hnis := hnt.2.1
  have hS128 : 2 ^ (s - ni) ≤ 128 := pow2_7 (by omega)
  have hn128 : 2 ^ ni ≤ 128 := pow2_7 (by omega)
  have hdx := (hb.2.2.2.2.2.1 x hxs).1
  have hcS := BI_le hb
  intro d
  induction d with
  | zero =>
    intro k hd
    obtain rfl : k = bD b x := by omega
    refine lf_iload_n d_T_isTraceRight_7 rfl rfl ?_
    refine lf_aload_n d_T_isTraceRight_8 rfl rfl rfl ?_
    refine gi_geti s_T_isTraceRight_9 (c_24 hT) rfl ?_
    refine gi_top hda ?_
    refine gi_icmp_ge d_T_isTraceRight_12 (tgt := 38) (by decide) (by omega) (fun hb12 => ?_) (fun hb12 => False.elim (by omega))
    exact k38
  | succ d ih =>
    intro k hd
    have hst := it_sn hb hxs (bD b x - (k + 1))
    have hdep := it_d hb (bD b x - (k + 1)) x hxs (by omega)
    have hyf : ¬ it (bF b) (bD b x - (k + 1)) x = fst fi s ni := fun e => by
      rw [e, hb.2.2.2.1.2.1] at hdep
      omega
    have hst2 := hb.2.2.2.2.1 _ hst hyf
    have e1 : it (bF b) (bD b x - k) x = bF b (it (bF b) (bD b x - (k + 1)) x) := by
      rw [show bD b x - k = (bD b x - (k + 1)) + 1 by omega, it_s]
    have e2 : I 41 k = ((bB b (it (bF b) (bD b x - (k + 1)) x) : Nat) : Int) := by
      have := htr.2 (bD b x - (k + 1)) (by omega)
      rw [show bD b x - 1 - (bD b x - (k + 1)) = k by omega] at this
      exact this
    have hyS := hb.2.1 _ hst
    have e4 := hst2.2.1
    rw [← e1] at e4
    refine lf_iload_n d_T_isTraceRight_7 rfl rfl ?_
    refine lf_aload_n d_T_isTraceRight_8 rfl rfl rfl ?_
    refine gi_geti s_T_isTraceRight_9 (c_24 hT) rfl ?_
    refine gi_top hda ?_
    refine gi_icmp_ge d_T_isTraceRight_12 (tgt := 38) (by decide) (by omega) (fun hb12 => False.elim (by omega)) (fun hb12 => ?_)
    refine lf_aload_n d_T_isTraceRight_15 rfl rfl rfl ?_
    refine lf_iload_n d_T_isTraceRight_16 rfl rfl ?_
    refine lf_aload_n d_T_isTraceRight_17 rfl rfl rfl ?_
    refine gi_geti s_T_isTraceRight_18 (c_24 hT) rfl ?_
    refine gi_top hi9 ?_
    refine gi_ishlN (a := (it (bF b) (bD b x - (k)) x)) (s := ni) d_T_isTraceRight_21 (by omega) ?_
    refine lf_aload_n d_T_isTraceRight_22 rfl rfl rfl ?_
    refine lf_iload_n d_T_isTraceRight_23 rfl rfl ?_
    refine gw_callP s_T_isTraceRight_24 (t_traceAt hx hT (k := k) (by omega)) (S := [_, _]) rfl rfl (gcR_2 (c_24 hT)) (by decide) (by decide +kernel) (Nat.le_of_ble_eq_true rfl) ?_
    refine gi_top e2 ?_
    refine gi_iorN (a := ((it (bF b) (bD b x - (k)) x) * 2 ^ ni)) (b := (bB b (it (bF b) (bD b x - (k + 1)) x))) d_T_isTraceRight_27 ?_
    refine gw_callP s_T_isTraceRight_28 (t_stateBehind hx hN hT hV hn2 hs hw hsw hnt hi9 (c := it (bF b) (bD b x - k) x * 2 ^ ni ||| bB b (it (bF b) (bD b x - (k + 1)) x))) (S := []) rfl rfl (gcR_2 (c_24 hT)) (by decide) (by decide +kernel) (Nat.le_of_ble_eq_true rfl) ?_
    refine gi_top (show ((nxt J w s ni dt (it (bF b) (bD b x - k) x * 2 ^ ni ||| bB b (it (bF b) (bD b x - (k + 1)) x)) : Nat) : Int) = ((it (bF b) (bD b x - (k + 1)) x : Nat) : Int) from congrArg (fun z : Nat => (z : Int)) e4) ?_
    refine lf_istore_n d_T_isTraceRight_31 rfl (by decide +kernel) (L2 := [(1, _), (2, _), (0, _)]) rfl ?_
    refine gi_iincN d_T_isTraceRight_32 rfl (by decide +kernel) (L2 := [(2, _), (1, _), (0, _)]) rfl ?_
    refine lf_goto d_T_isTraceRight_35 (tgt := 7) (by decide) ?_
    exact ih (k + 1) (by omega)
theorem t_isTraceRight (hx : HX X L9 xs) (hN : clN sh) {cc : Nat} {n w s : Nat} (hV : clV sh n w) (hn2 : n ≤ 80) (hs : I 15 1 = s) (hw : I 15 2 = w) (hsw : (s ≤ 6 ∧ w = 1) ∨ (s = 7 ∧ w = 2)) {ni no : Nat} {fi dt : Nat → Nat} {ot : Nat → Nat → Nat} (hT : clT sh cc (2 ^ (s - ni))) (hcc : cc = 2 ^ s) (hnt : NT I n s ni no fi dt ot) (hi9 : I 24 2 = ni) (hsr : SR I J w s ni no fi dt ot) : EVp TT cl6 X mi_T_isTraceRight 4 [.ref 24] sh I J (.int (Int32.ofInt (((1 : Nat) : Int)))) := by
  have hnis := hnt.2.1
  have hS128 : 2 ^ (s - ni) ≤ 128 := pow2_7 (by omega)
  have hb := BI_srch (J := J) (w := w) hnt (2 ^ (s - ni))
  have hcm := hsr.2
  have hno4 := hnt.2.2.2.2.2.1
  have hcS := BI_le hb
  cases hX : bX (bfs (KP J) (NX J w s ni dt) (UL J w s ni ot no) (2 ^ ni) (fst fi s ni) (2 ^ (s - ni))) with
  | none =>
    have hda : I 24 15 = -1 := hcm.2.2.2.2.1 hX
    refine gw_enter (hx_ok hx) (by decide +kernel) (Nat.le_of_ble_eq_true rfl) (L := [(0, _)]) rfl ?_
    refine lf_aload_n d_T_isTraceRight_0 rfl rfl rfl ?_
    refine gw_callP s_T_isTraceRight_1 (t_firstState hx hN hT hV hn2 hs hw hsw hnt hi9) (S := []) rfl rfl (gcR_2 (c_24 hT)) (by decide) (by decide +kernel) (Nat.le_of_ble_eq_true rfl) ?_
    refine lf_istore_n d_T_isTraceRight_4 rfl (by decide +kernel) (L2 := [(1, _), (0, _)]) rfl ?_
    refine lf_iconst d_T_isTraceRight_5 (v := Int32.ofInt ((0 : Nat) : Int)) rfl ?_
    refine lf_istore_n d_T_isTraceRight_6 rfl (by decide +kernel) (L2 := [(2, _), (1, _), (0, _)]) rfl ?_
    refine lf_iload_n d_T_isTraceRight_7 rfl rfl ?_
    refine lf_aload_n d_T_isTraceRight_8 rfl rfl rfl ?_
    refine gi_geti s_T_isTraceRight_9 (c_24 hT) rfl ?_
    refine gi_top hda ?_
    refine gi_icmp_ge d_T_isTraceRight_12 (tgt := 38) (by decide) (by omega) (fun hb12 => ?_) (fun hb12 => False.elim (by omega))
    refine lf_iload_n d_T_isTraceRight_38 rfl rfl ?_
    refine lf_aload_n d_T_isTraceRight_39 rfl rfl rfl ?_
    refine gi_geti s_T_isTraceRight_40 (c_24 hT) rfl ?_
    refine gi_top hi9 ?_
    refine gi_ishlN (a := (fst fi s ni)) (s := ni) d_T_isTraceRight_43 (by omega) ?_
    refine lf_aload_n d_T_isTraceRight_44 rfl rfl rfl ?_
    refine lf_aload_n d_T_isTraceRight_45 rfl rfl rfl ?_
    refine gi_geti s_T_isTraceRight_46 (c_24 hT) rfl ?_
    refine gi_top hda ?_
    refine gw_callP s_T_isTraceRight_49 (t_traceAt_n hx hT (by omega)) (S := [_]) rfl rfl (gcR_2 (c_24 hT)) (by decide) (by decide +kernel) (Nat.le_of_ble_eq_true rfl) ?_
    refine gi_top (show (0 : Int) = ((0 : Nat) : Int) from rfl) ?_
    refine gi_iorN (a := ((fst fi s ni) * 2 ^ ni)) (b := 0) d_T_isTraceRight_52 ?_
    refine lf_istore_n d_T_isTraceRight_53 rfl (by decide +kernel) (L2 := [(2, _), (1, _), (0, _)]) rfl ?_
    refine lf_aload_n d_T_isTraceRight_54 rfl rfl rfl ?_
    refine gi_geti s_T_isTraceRight_55 (c_24 hT) rfl ?_
    refine gi_top hda ?_
    refine gi_if_lt d_T_isTraceRight_58 (tgt := 76) (by decide) (by omega) (fun hb58 => ?_) (fun hb58 => False.elim (by omega))
    refine lf_iconst d_T_isTraceRight_76 (v := Int32.ofInt ((1 : Nat) : Int)) rfl ?_
    refine lf_goto d_T_isTraceRight_77 (tgt := 81) (by decide) ?_
    refine gw_zret d_T_isTraceRight_81 rfl (by omega) ?_
    exact ⟨rfl, rfl, rfl, rfl⟩
  | some q =>
    obtain ⟨x, ch⟩ := q
    have hda := hcm.2.2.2.2.2 x ch hX
    have hxs := hb.2.2.2.2.2.2 x ch hX
    have hdx := (hb.2.2.2.2.2.1 x hxs.1).1
    have hun := unl2_o (hxs.2.2.1 : unl2 J w s ot no (chc ni x ch) = true)
    have ho0 := out_lt (J := J) (w := w) (s := s) (ot := ot) (t := 0) (c := chc ni x ch) hno4
    have ho1 := out_lt (J := J) (w := w) (s := s) (ot := ot) (t := 1) (c := chc ni x ch) hno4
    have hn128 : 2 ^ ni ≤ 128 := pow2_7 (by omega)
    have hxS := hb.2.1 x hxs.1
    refine gw_enter (hx_ok hx) (by decide +kernel) (Nat.le_of_ble_eq_true rfl) (L := [(0, _)]) rfl ?_
    refine lf_aload_n d_T_isTraceRight_0 rfl rfl rfl ?_
    refine gw_callP s_T_isTraceRight_1 (t_firstState hx hN hT hV hn2 hs hw hsw hnt hi9) (S := []) rfl rfl (gcR_2 (c_24 hT)) (by decide) (by decide +kernel) (Nat.le_of_ble_eq_true rfl) ?_
    refine lf_istore_n d_T_isTraceRight_4 rfl (by decide +kernel) (L2 := [(1, _), (0, _)]) rfl ?_
    refine lf_iconst d_T_isTraceRight_5 (v := Int32.ofInt ((0 : Nat) : Int)) rfl ?_
    refine lf_istore_n d_T_isTraceRight_6 rfl (by decide +kernel) (L2 := [(2, _), (1, _), (0, _)]) rfl ?_
    refine lf_eqL (L1 := [(2, .int (Int32.ofInt ((0 : Nat) : Int))), (1, .int (Int32.ofInt ((it (bF (bfs (KP J) (NX J w s ni dt) (UL J w s ni ot no) (2 ^ ni) (fst fi s ni) (2 ^ (s - ni)))) (bD (bfs (KP J) (NX J w s ni dt) (UL J w s ni ot no) (2 ^ ni) (fst fi s ni) (2 ^ (s - ni))) x - (0)) x : Nat) : Int))), (0, .ref 24)]) (by rw [Nat.sub_zero, it_f hb hxs.1]) ?_
    refine t_tr_l hx hN hV hn2 hs hw hsw hT hcc hnt hi9 hb hxs.1 hda.1 hda.2 ?_ (bD (bfs (KP J) (NX J w s ni dt) (UL J w s ni ot no) (2 ^ ni) (fst fi s ni) (2 ^ (s - ni))) x) 0 (by omega)
    refine lf_eqL (L1 := [(2, .int (Int32.ofInt ((bD (bfs (KP J) (NX J w s ni dt) (UL J w s ni ot no) (2 ^ ni) (fst fi s ni) (2 ^ (s - ni))) x : Nat) : Int))), (1, .int (Int32.ofInt ((x : Nat) : Int))), (0, .ref 24)]) (by rw [Nat.sub_self]; rfl) ?_
    refine lf_iload_n d_T_isTraceRight_38 rfl rfl ?_
    refine lf_aload_n d_T_isTraceRight_39 rfl rfl rfl ?_
    refine gi_geti s_T_isTraceRight_40 (c_24 hT) rfl ?_
    refine gi_top hi9 ?_
    refine gi_ishlN (a := x) (s := ni) d_T_isTraceRight_43 (by omega) ?_
    refine lf_aload_n d_T_isTraceRight_44 rfl rfl rfl ?_
    refine lf_aload_n d_T_isTraceRight_45 rfl rfl rfl ?_
    refine gi_geti s_T_isTraceRight_46 (c_24 hT) rfl ?_
    refine gi_top hda.1 ?_
    refine gw_callP s_T_isTraceRight_49 (t_traceAt hx hT (by omega)) (S := [_]) rfl rfl (gcR_2 (c_24 hT)) (by decide) (by decide +kernel) (Nat.le_of_ble_eq_true rfl) ?_
    refine gi_top hda.2.1 ?_
    refine gi_iorN (a := (x * 2 ^ ni)) (b := ch) d_T_isTraceRight_52 ?_
    refine lf_istore_n d_T_isTraceRight_53 rfl (by decide +kernel) (L2 := [(2, _), (1, _), (0, _)]) rfl ?_
    refine lf_aload_n d_T_isTraceRight_54 rfl rfl rfl ?_
    refine gi_geti s_T_isTraceRight_55 (c_24 hT) rfl ?_
    refine gi_top hda.1 ?_
    refine gi_if_lt d_T_isTraceRight_58 (tgt := 76) (by decide) (by omega) (fun hb58 => False.elim (by omega)) (fun hb58 => ?_)
    refine lf_aload_n d_T_isTraceRight_61 rfl rfl rfl ?_
    refine lf_iconst d_T_isTraceRight_62 (v := Int32.ofInt ((0 : Nat) : Int)) rfl ?_
    refine lf_iload_n d_T_isTraceRight_63 rfl rfl ?_
    refine gw_callP s_T_isTraceRight_64 (t_outputsAt hx hN hT hV hn2 hs hw hsw hnt hi9 (t := 0) (c := chc ni x ch) (by decide)) (S := []) rfl rfl (gcR_2 (c_24 hT)) (by decide) (by decide +kernel) (Nat.le_of_ble_eq_true rfl) ?_
    refine lf_aload_n d_T_isTraceRight_67 rfl rfl rfl ?_
    refine lf_iconst d_T_isTraceRight_68 (v := Int32.ofInt ((1 : Nat) : Int)) rfl ?_
    refine lf_iload_n d_T_isTraceRight_69 rfl rfl ?_
    refine gw_callP s_T_isTraceRight_70 (t_outputsAt hx hN hT hV hn2 hs hw hsw hnt hi9 (t := 1) (c := chc ni x ch) (by decide)) (S := [_]) rfl rfl (gcR_2 (c_24 hT)) (by decide) (by decide +kernel) (Nat.le_of_ble_eq_true rfl) ?_
    refine gi_icmp_eq d_T_isTraceRight_73 (tgt := 80) (by decide) (by omega) (fun hb73 => False.elim (by omega)) (fun hb73 => ?_)
    refine lf_iconst d_T_isTraceRight_76 (v := Int32.ofInt ((1 : Nat) : Int)) rfl ?_
    refine lf_goto d_T_isTraceRight_77 (tgt := 81) (by decide) ?_
    refine gw_zret d_T_isTraceRight_81 rfl (by omega) ?_
    exact ⟨rfl, rfl, rfl, rfl⟩
end TT17
