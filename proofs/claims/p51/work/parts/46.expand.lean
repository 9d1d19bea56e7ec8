section TT12
variable {X : XT} {L9 : Nat} {xs : Nat → Int32} {sh : sM} {I : mI} {J : mJ}

variable {D : mF} {P : Option Value → mF → Prop} {PX : String → mF → Prop} {kc ks : Nat}

abbrev KP (J : mJ) : Nat → Bool := fun ch => lb (J 15 11) ch
abbrev NX (J : mJ) (w s ni : Nat) (dt : Nat → Nat) : Nat → Nat → Nat := fun x ch => nxt J w s ni dt (chc ni x ch)
abbrev UL (J : mJ) (w s ni : Nat) (ot : Nat → Nat → Nat) (no : Nat) : Nat → Nat → Bool := fun x ch => unl2 J w s ot no (chc ni x ch)
def FRM (I1 I : mI) : Prop := ∀ a q, (a < 37 ∨ 41 < a) → ¬ (a = 24 ∧ (q = 14 ∨ q = 15)) → I1 a q = I a q
theorem FK_frm {I1 : mI} {w s ni no : Nat} {dt : Nat → Nat} {ot : Nat → Nat → Nat} (h : FRM I1 I) (g : FK I J w s ni dt ot no) : FK I1 J w s ni dt ot no := by
  unfold FK at *
  rw [h 24 12 (by omega) (by omega)]
  exact ⟨g.1, fun c hc => by rw [h 36 c (by omega) (by omega)]; exact g.2 c hc⟩
theorem t_exp_l (hx : HX X L9 xs) {cc w s ni no n : Nat} {dt : Nat → Nat} {ot : Nat → Nat → Nat} (hT : clT sh cc (2 ^ (s - ni))) (hV : clV sh n w) (hcc : cc = 2 ^ s) (hs7 : s ≤ 7) (hi9 : I 24 2 = ni) (hnis : ni ≤ s) (hc6 : ∀ c, c < 2 ^ ni → c < 64) (hfk : FK I J w s ni dt ot no) {f : Nat} {b : BST} (hb : BI (KP J) (NX J w s ni dt) (UL J w s ni ot no) (2 ^ ni) f (2 ^ (s - ni)) b) {x : Nat} (hxs : bS b x = true) (k104 : ∀ I1 : mI, FRM I1 I → CM I1 (bExp (KP J) (NX J w s ni dt) (UL J w s ni ot no) x (2 ^ ni) b) (2 ^ (s - ni)) → LXf TT cl6 X mi_T_expand (40 + 2) (1000 + 200 * 2) D P PX kc ks 104 [(3, .int (Int32.ofInt ((2 ^ ni : Nat) : Int))), (2, .int (Int32.ofInt ((bD b x : Nat) : Int))), (0, .ref 24), (1, .int (Int32.ofInt ((x : Nat) : Int)))] [] (hp sh I1 J)) : ∀ (d c : Nat) (I1 : mI), c + d = 2 ^ ni → FRM I1 I → CM I1 (bExp (KP J) (NX J w s ni dt) (UL J w s ni ot no) x c b) (2 ^ (s - ni)) → LXf TT cl6 X mi_T_expand (40 + 2) (1000 + 200 * 2) D P PX kc ks 11 [(3, .int (Int32.ofInt ((c : Nat) : Int))), (2, .int (Int32.ofInt ((bD b x : Nat) : Int))), (0, .ref 24), (1, .int (Int32.ofInt ((x : Nat) : Int)))] [] (hp sh I1 J) := by
  have hn128 : 2 ^ ni ≤ 128 := pow2_7 (by omega)
  have hS128 : 2 ^ (s - ni) ≤ 128 := pow2_7 (by omega)
  have hxS := hb.2.1 x hxs
  have hnx : ∀ ch, NX J w s ni dt x ch < 2 ^ (s - ni) := fun ch => nxt_lt
  intro d
  induction d with
  | zero =>
    intro c I1 hc he h
    have hc2 : c = 2 ^ ni := by omega
    have hi91 : I1 24 2 = (ni : Int) := by rw [he 24 2 (by omega) (by omega)]; exact hi9
    refine lf_iload_n d_T_expand_11 rfl rfl ?_
    refine lf_iconst d_T_expand_12 (v := Int32.ofInt ((1 : Nat) : Int)) rfl ?_
    refine lf_aload_n d_T_expand_13 rfl rfl rfl ?_
    refine gi_geti s_T_expand_14 (c_24 hT) rfl ?_
    refine gi_top hi91 ?_
    refine gi_ishlN (a := 1) (s := ni) d_T_expand_17 (by omega) ?_
    refine gi_top (show ((1 * 2 ^ ni : Nat) : Int) = ((2 ^ ni : Nat) : Int) from by rw [Nat.one_mul]) ?_
    refine gi_icmp_ge d_T_expand_18 (tgt := 104) (by decide) (by omega) (fun hb18 => ?_) (fun hb18 => False.elim (by omega))
    rw [hc2] at h ⊢
    exact k104 I1 he h
  | succ d ih =>
    intro c I1 hc he h
    have hi91 : I1 24 2 = (ni : Int) := by rw [he 24 2 (by omega) (by omega)]; exact hi9
    have hc64 := hc6 c (by omega)
    obtain ⟨hbc, hlc⟩ := BI_exp hb hxs (fun ch _ => hnx ch) c (by omega)
    have hxc := hlc.2.2.1 x hxs
    have hfk1 := FK_frm he hfk
    by_cases hk : lb (J 15 11) c = true
    · have hbf := BI_find (x := x) (ch := c) hbc hxc.1 (by omega) hk
      have hxf := hbf.2.2.2.1 x hxc.1
      have e5 : bD (bFind (UL J w s ni ot no) x c (bExp (KP J) (NX J w s ni dt) (UL J w s ni ot no) x c b)) x = bD b x := by rw [hxf.2.2.2, hxc.2.2.2]
      have hst : bExp (KP J) (NX J w s ni dt) (UL J w s ni ot no) x (c + 1) b = bGo (NX J w s ni dt) x c (bFind (UL J w s ni ot no) x c (bExp (KP J) (NX J w s ni dt) (UL J w s ni ot no) x c b)) := by
        show bStep (KP J) _ _ x c _ = _
        unfold bStep
        rw [if_pos hk]
      have j67 : ∀ I2 : mI, FRM I2 I → CM I2 (bFind (UL J w s ni ot no) x c (bExp (KP J) (NX J w s ni dt) (UL J w s ni ot no) x c b)) (2 ^ (s - ni)) → LXf TT cl6 X mi_T_expand (40 + 2) (1000 + 200 * 2) D P PX kc ks 67 [(4, .int (Int32.ofInt ((fol J w s ni dt ot no (chc ni x c) : Nat) : Int))), (3, .int (Int32.ofInt ((c : Nat) : Int))), (2, .int (Int32.ofInt ((bD b x : Nat) : Int))), (0, .ref 24), (1, .int (Int32.ofInt ((x : Nat) : Int)))] [] (hp sh I2 J) := by
        intro I2 he2 h2
        cases hs : bS (bFind (UL J w s ni ot no) x c (bExp (KP J) (NX J w s ni dt) (UL J w s ni ot no) x c b)) (NX J w s ni dt x c) with
        | true =>
          have e38 := (h2.2.2.1 _ (hnx c) hs).1
          have hF9 := hbf.1.2.1 _ (hbf.1.2.2.2.2.2.1 _ hs).2.2
          have hgo : bExp (KP J) (NX J w s ni dt) (UL J w s ni ot no) x (c + 1) b = bFind (UL J w s ni ot no) x c (bExp (KP J) (NX J w s ni dt) (UL J w s ni ot no) x c b) := by
            rw [hst]; unfold bGo; rw [if_pos hs]
          refine lf_iload d_T_expand_67 rfl ?_
          refine lf_sipush d_T_expand_69 (v := Int32.ofInt ((255 : Nat) : Int)) (by decide +kernel) ?_
          refine gi_iandN (a := (fol J w s ni dt ot no (chc ni x c))) (b := 255) d_T_expand_72 ?_
          refine gi_top (show ((fol J w s ni dt ot no (chc ni x c) &&& 255 : Nat) : Int) = ((NX J w s ni dt x c : Nat) : Int) from congrArg (fun z : Nat => (z : Int)) (fol_n hs7)) ?_
          refine lf_istore d_T_expand_73 (by decide +kernel) (L2 := [(5, _), (4, _), (3, _), (2, _), (0, _), (1, _)]) rfl ?_
          refine lf_aload_n d_T_expand_75 rfl rfl rfl ?_
          refine gi_getr s_T_expand_76 (c_24 hT) rfl ?_
          refine lf_iload d_T_expand_79 rfl ?_
          refine gw_callP s_T_expand_81 (m_numberAtN hx (c_38 hT) ⟨hnx c, by omega⟩) (S := []) rfl rfl gcR_4 (by decide) (by decide +kernel) (Nat.le_of_ble_eq_true rfl) ?_
          refine gi_top e38 ?_
          refine gi_if_ge d_T_expand_84 (tgt := 98) (by decide) (by omega) (fun hb84 => ?_) (fun hb84 => False.elim (by omega))
          refine gi_iincN d_T_expand_98 rfl (by decide +kernel) (L2 := [(3, _), (5, _), (4, _), (2, _), (0, _), (1, _)]) rfl ?_
          refine lf_goto d_T_expand_101 (tgt := 11) (by decide) ?_
          refine lf_sub [0, 3, 4, 5] rfl ?_
          exact ih (c + 1) I2 (by omega) he2 (by rw [hgo]; exact h2)
        | false =>
          have e38 := h2.2.2.2.1 _ (hnx c) hs
          have hcl : bCnt (bFind (UL J w s ni ot no) x c (bExp (KP J) (NX J w s ni dt) (UL J w s ni ot no) x c b)) < 2 ^ (s - ni) := by
            rw [hbf.1.2.2.1]
            exact cb_all (hnx c) hs
          have hgo : bExp (KP J) (NX J w s ni dt) (UL J w s ni ot no) x (c + 1) b = bMeet (bFind (UL J w s ni ot no) x c (bExp (KP J) (NX J w s ni dt) (UL J w s ni ot no) x c b)) (NX J w s ni dt x c) x c (bD (bFind (UL J w s ni ot no) x c (bExp (KP J) (NX J w s ni dt) (UL J w s ni ot no) x c b)) x + 1) := by
            rw [hst]; unfold bGo; rw [if_neg (by rw [hs]; decide)]
          refine lf_iload d_T_expand_67 rfl ?_
          refine lf_sipush d_T_expand_69 (v := Int32.ofInt ((255 : Nat) : Int)) (by decide +kernel) ?_
          refine gi_iandN (a := (fol J w s ni dt ot no (chc ni x c))) (b := 255) d_T_expand_72 ?_
          refine gi_top (show ((fol J w s ni dt ot no (chc ni x c) &&& 255 : Nat) : Int) = ((NX J w s ni dt x c : Nat) : Int) from congrArg (fun z : Nat => (z : Int)) (fol_n hs7)) ?_
          refine lf_istore d_T_expand_73 (by decide +kernel) (L2 := [(5, _), (4, _), (3, _), (2, _), (0, _), (1, _)]) rfl ?_
          refine lf_aload_n d_T_expand_75 rfl rfl rfl ?_
          refine gi_getr s_T_expand_76 (c_24 hT) rfl ?_
          refine lf_iload d_T_expand_79 rfl ?_
          refine gw_callP s_T_expand_81 (m_numberAtN hx (c_38 hT) ⟨hnx c, by omega⟩) (S := []) rfl rfl gcR_4 (by decide) (by decide +kernel) (Nat.le_of_ble_eq_true rfl) ?_
          refine gi_top e38 ?_
          refine gi_if_ge d_T_expand_84 (tgt := 98) (by decide) (by omega) (fun hb84 => False.elim (by omega)) (fun hb84 => ?_)
          refine lf_aload_n d_T_expand_87 rfl rfl rfl ?_
          refine lf_iload d_T_expand_88 rfl ?_
          refine lf_iload_n d_T_expand_90 rfl rfl ?_
          refine lf_iload_n d_T_expand_91 rfl rfl ?_
          refine lf_iload_n d_T_expand_92 rfl rfl ?_
          refine lf_iconst d_T_expand_93 (v := Int32.ofInt ((1 : Nat) : Int)) rfl ?_
          refine gi_iaddN (a := (bD b x)) (b := 1) d_T_expand_94 ?_
          refine gw_callV s_T_expand_95 (t_meet hx hT hS128 h2.1 hcl (hnx c)) (S := []) rfl rfl (gcR_2 (c_24 hT)) (by decide) (by decide +kernel) (Nat.le_of_ble_eq_true rfl) (fun I J w95 => ?_)
          obtain ⟨rfl, rfl⟩ := w95
          refine gi_iincN d_T_expand_98 rfl (by decide +kernel) (L2 := [(3, _), (5, _), (4, _), (2, _), (0, _), (1, _)]) rfl ?_
          refine lf_goto d_T_expand_101 (tgt := 11) (by decide) ?_
          refine lf_sub [0, 3, 4, 5] rfl ?_
          refine ih (c + 1) _ (by omega) (fun a q ha hq => ?_) ?_
          · rw [← he2 a q ha hq]
            by_cases z : a = 24
            · subst z
              rw [ipt_s, if_neg (fun z => hq ⟨rfl, Or.inl z⟩), ipt_o (by decide), ipt_o (by decide), ipt_o (by decide), ipt_o (by decide)]
            · rw [ipt_o z, ipt_o (by omega), ipt_o (by omega), ipt_o (by omega), ipt_o (by omega)]
          · rw [hgo, ← e5]
            exact CM_meet hbf.1 h2 hxf.1 hs (hnx c)
      by_cases hu : unl2 J w s ot no (chc ni x c) = true
      · cases hX : bX (bExp (KP J) (NX J w s ni dt) (UL J w s ni ot no) x c b) with
        | some q =>
          obtain ⟨x1, c1⟩ := q
          have g := (h.2.2.2.2.2 x1 c1 hX).1
          have hcf : CM I1 (bFind (UL J w s ni ot no) x c (bExp (KP J) (NX J w s ni dt) (UL J w s ni ot no) x c b)) (2 ^ (s - ni)) := by
            have e : bFind (UL J w s ni ot no) x c (bExp (KP J) (NX J w s ni dt) (UL J w s ni ot no) x c b) = bExp (KP J) (NX J w s ni dt) (UL J w s ni ot no) x c b := by
              unfold bFind
              rw [hX]
              show (_, _, _, _, _, _, some (x1, c1)) = _
              rw [← hX]; rfl
            rw [e]; exact h
          have hD1 := (hbc.2.2.2.2.2.1 x1 (hbc.2.2.2.2.2.2 x1 c1 hX).1).1
          have hD2 := BI_le hbc
          refine lf_iload_n d_T_expand_11 rfl rfl ?_
          refine lf_iconst d_T_expand_12 (v := Int32.ofInt ((1 : Nat) : Int)) rfl ?_
          refine lf_aload_n d_T_expand_13 rfl rfl rfl ?_
          refine gi_geti s_T_expand_14 (c_24 hT) rfl ?_
          refine gi_top hi91 ?_
          refine gi_ishlN (a := 1) (s := ni) d_T_expand_17 (by omega) ?_
          refine gi_top (show ((1 * 2 ^ ni : Nat) : Int) = ((2 ^ ni : Nat) : Int) from by rw [Nat.one_mul]) ?_
          refine gi_icmp_ge d_T_expand_18 (tgt := 104) (by decide) (by omega) (fun hb18 => False.elim (by omega)) (fun hb18 => ?_)
          refine lf_aload_n d_T_expand_21 rfl rfl rfl ?_
          refine gi_getr s_T_expand_22 (c_24 hT) rfl ?_
          refine lf_iload_n d_T_expand_25 rfl rfl ?_
          refine gw_callP s_T_expand_26 (v_areKeptInputs hx hV (c := c) hc64) (S := []) rfl rfl (gcR_2 (c_15 hV)) (by decide) (by decide +kernel) (Nat.le_of_ble_eq_true rfl) ?_
          refine gb_if_eq d_T_expand_29 (tgt := 98) (by decide) (fun hb29 => False.elim (by exact hb29 hk)) (fun hb29 => ?_)
          refine lf_aload_n d_T_expand_32 rfl rfl rfl ?_
          refine lf_iload_n d_T_expand_33 rfl rfl ?_
          refine lf_iload_n d_T_expand_34 rfl rfl ?_
          refine gw_callP s_T_expand_35 (t_stepFrom hx hT hcc hs7 hi91 hnis hfk1 hxS (ch := c) (by omega)) (S := []) rfl rfl (gcR_2 (c_24 hT)) (by decide) (by decide +kernel) (Nat.le_of_ble_eq_true rfl) ?_
          refine lf_istore d_T_expand_38 (by decide +kernel) (L2 := [(4, _), (3, _), (2, _), (0, _), (1, _)]) rfl ?_
          refine lf_iload d_T_expand_40 rfl ?_
          refine lf_sipush d_T_expand_42 (v := Int32.ofInt ((256 : Nat) : Int)) (by decide +kernel) ?_
          refine gi_iandN (a := (fol J w s ni dt ot no (chc ni x c))) (b := 256) d_T_expand_45 ?_
          refine gi_top (show ((fol J w s ni dt ot no (chc ni x c) &&& 256 : Nat) : Int) = (if unl2 J w s ot no (chc ni x c) = true then 256 else 0 : Int) from by rw [fol_u hs7]; split <;> rfl) ?_
          refine gi_if_eq d_T_expand_46 (tgt := 67) (by decide) u256_r (fun hb46 => False.elim (by exact u256_0.mp hb46 hu)) (fun hb46 => ?_)
          refine lf_aload_n d_T_expand_49 rfl rfl rfl ?_
          refine gi_geti s_T_expand_50 (c_24 hT) rfl ?_
          refine gi_top g ?_
          refine gi_if_ge d_T_expand_53 (tgt := 67) (by decide) (by omega) (fun hb53 => ?_) (fun hb53 => False.elim (by omega))
          exact j67 I1 he hcf
        | none =>
          have g := h.2.2.2.2.1 hX
          refine lf_iload_n d_T_expand_11 rfl rfl ?_
          refine lf_iconst d_T_expand_12 (v := Int32.ofInt ((1 : Nat) : Int)) rfl ?_
          refine lf_aload_n d_T_expand_13 rfl rfl rfl ?_
          refine gi_geti s_T_expand_14 (c_24 hT) rfl ?_
          refine gi_top hi91 ?_
          refine gi_ishlN (a := 1) (s := ni) d_T_expand_17 (by omega) ?_
          refine gi_top (show ((1 * 2 ^ ni : Nat) : Int) = ((2 ^ ni : Nat) : Int) from by rw [Nat.one_mul]) ?_
          refine gi_icmp_ge d_T_expand_18 (tgt := 104) (by decide) (by omega) (fun hb18 => False.elim (by omega)) (fun hb18 => ?_)
          refine lf_aload_n d_T_expand_21 rfl rfl rfl ?_
          refine gi_getr s_T_expand_22 (c_24 hT) rfl ?_
          refine lf_iload_n d_T_expand_25 rfl rfl ?_
          refine gw_callP s_T_expand_26 (v_areKeptInputs hx hV (c := c) hc64) (S := []) rfl rfl (gcR_2 (c_15 hV)) (by decide) (by decide +kernel) (Nat.le_of_ble_eq_true rfl) ?_
          refine gb_if_eq d_T_expand_29 (tgt := 98) (by decide) (fun hb29 => False.elim (by exact hb29 hk)) (fun hb29 => ?_)
          refine lf_aload_n d_T_expand_32 rfl rfl rfl ?_
          refine lf_iload_n d_T_expand_33 rfl rfl ?_
          refine lf_iload_n d_T_expand_34 rfl rfl ?_
          refine gw_callP s_T_expand_35 (t_stepFrom hx hT hcc hs7 hi91 hnis hfk1 hxS (ch := c) (by omega)) (S := []) rfl rfl (gcR_2 (c_24 hT)) (by decide) (by decide +kernel) (Nat.le_of_ble_eq_true rfl) ?_
          refine lf_istore d_T_expand_38 (by decide +kernel) (L2 := [(4, _), (3, _), (2, _), (0, _), (1, _)]) rfl ?_
          refine lf_iload d_T_expand_40 rfl ?_
          refine lf_sipush d_T_expand_42 (v := Int32.ofInt ((256 : Nat) : Int)) (by decide +kernel) ?_
          refine gi_iandN (a := (fol J w s ni dt ot no (chc ni x c))) (b := 256) d_T_expand_45 ?_
          refine gi_top (show ((fol J w s ni dt ot no (chc ni x c) &&& 256 : Nat) : Int) = (if unl2 J w s ot no (chc ni x c) = true then 256 else 0 : Int) from by rw [fol_u hs7]; split <;> rfl) ?_
          refine gi_if_eq d_T_expand_46 (tgt := 67) (by decide) u256_r (fun hb46 => False.elim (by exact u256_0.mp hb46 hu)) (fun hb46 => ?_)
          refine lf_aload_n d_T_expand_49 rfl rfl rfl ?_
          refine gi_geti s_T_expand_50 (c_24 hT) rfl ?_
          refine gi_top g ?_
          refine gi_if_ge d_T_expand_53 (tgt := 67) (by decide) (by omega) (fun hb53 => False.elim (by omega)) (fun hb53 => ?_)
          refine lf_aload_n d_T_expand_56 rfl rfl rfl ?_
          refine lf_iload_n d_T_expand_57 rfl rfl ?_
          refine gi_puti s_T_expand_58 (c_24 hT) rfl ?_
          refine lf_aload_n d_T_expand_61 rfl rfl rfl ?_
          refine lf_iload_n d_T_expand_62 rfl rfl ?_
          refine lf_iload_n d_T_expand_63 rfl rfl ?_
          refine gw_callV s_T_expand_64 (t_writeTrace (I := ipt I1 24 15 ((bD b x : Nat) : Int)) hx hT hS128 hbf.1 (fun y hy hys => h.2.2.1 y hy hys) hxf.1 (by rw [e5]; exact ipt_e)) (S := []) rfl rfl (gcR_2 (c_24 hT)) (by decide) (by decide +kernel) (Nat.le_of_ble_eq_true rfl) (fun I J w64 => ?_)
          obtain ⟨q1, q2, rfl⟩ := w64
          refine j67 I (fun a q ha hq => ?_) ⟨?_, fun j hj => ?_, fun y hy hys => ?_, fun y hy hys => ?_, fun z => ?_, fun x2 c2 z => ?_⟩
          · rw [q1 a (by omega)]
            by_cases z : a = 24
            · subst z
              rw [ipt_s, if_neg (fun z => hq ⟨rfl, Or.inr z⟩)]
              exact he 24 q ha hq
            · rw [ipt_o z]; exact he a q ha hq
          · rw [q1 24 (by decide), ipt_s, if_neg (by decide)]; exact h.1
          · rw [q1 37 (by decide)]; exact h.2.1 j hj
          · rw [q1 38 (by decide), q1 39 (by decide), q1 40 (by decide)]; exact h.2.2.1 y hy hys
          · rw [q1 38 (by decide)]; exact h.2.2.2.1 y hy hys
          · exfalso
            have hu9 : UL J w s ni ot no x c = true := hu
            have z2 : (if (bX (bExp (KP J) (NX J w s ni dt) (UL J w s ni ot no) x c b)).isNone && UL J w s ni ot no x c then some (x, c) else bX (bExp (KP J) (NX J w s ni dt) (UL J w s ni ot no) x c b)) = none := z
            rw [hX, hu9] at z2
            cases z2
          · have hu9 : UL J w s ni ot no x c = true := hu
            have z2 : (if (bX (bExp (KP J) (NX J w s ni dt) (UL J w s ni ot no) x c b)).isNone && UL J w s ni ot no x c then some (x, c) else bX (bExp (KP J) (NX J w s ni dt) (UL J w s ni ot no) x c b)) = some (x2, c2) := z
            rw [hX, hu9] at z2
            cases z2
            exact ⟨by rw [q1 24 (by decide), ipt_e, e5], q2⟩
      · have hu2 : unl2 J w s ot no (chc ni x c) = false := by cases h9 : unl2 J w s ot no (chc ni x c) with | false => rfl | true => exact absurd h9 hu
        have hcf : CM I1 (bFind (UL J w s ni ot no) x c (bExp (KP J) (NX J w s ni dt) (UL J w s ni ot no) x c b)) (2 ^ (s - ni)) := by
          have e : bFind (UL J w s ni ot no) x c (bExp (KP J) (NX J w s ni dt) (UL J w s ni ot no) x c b) = bExp (KP J) (NX J w s ni dt) (UL J w s ni ot no) x c b := by
            unfold bFind
            rw [show UL J w s ni ot no x c = false from hu2, Bool.and_false]
            rfl
          rw [e]; exact h
        refine lf_iload_n d_T_expand_11 rfl rfl ?_
        refine lf_iconst d_T_expand_12 (v := Int32.ofInt ((1 : Nat) : Int)) rfl ?_
        refine lf_aload_n d_T_expand_13 rfl rfl rfl ?_
        refine gi_geti s_T_expand_14 (c_24 hT) rfl ?_
        refine gi_top hi91 ?_
        refine gi_ishlN (a := 1) (s := ni) d_T_expand_17 (by omega) ?_
        refine gi_top (show ((1 * 2 ^ ni : Nat) : Int) = ((2 ^ ni : Nat) : Int) from by rw [Nat.one_mul]) ?_
        refine gi_icmp_ge d_T_expand_18 (tgt := 104) (by decide) (by omega) (fun hb18 => False.elim (by omega)) (fun hb18 => ?_)
        refine lf_aload_n d_T_expand_21 rfl rfl rfl ?_
        refine gi_getr s_T_expand_22 (c_24 hT) rfl ?_
        refine lf_iload_n d_T_expand_25 rfl rfl ?_
        refine gw_callP s_T_expand_26 (v_areKeptInputs hx hV (c := c) hc64) (S := []) rfl rfl (gcR_2 (c_15 hV)) (by decide) (by decide +kernel) (Nat.le_of_ble_eq_true rfl) ?_
        refine gb_if_eq d_T_expand_29 (tgt := 98) (by decide) (fun hb29 => False.elim (by exact hb29 hk)) (fun hb29 => ?_)
        refine lf_aload_n d_T_expand_32 rfl rfl rfl ?_
        refine lf_iload_n d_T_expand_33 rfl rfl ?_
        refine lf_iload_n d_T_expand_34 rfl rfl ?_
        refine gw_callP s_T_expand_35 (t_stepFrom hx hT hcc hs7 hi91 hnis hfk1 hxS (ch := c) (by omega)) (S := []) rfl rfl (gcR_2 (c_24 hT)) (by decide) (by decide +kernel) (Nat.le_of_ble_eq_true rfl) ?_
        refine lf_istore d_T_expand_38 (by decide +kernel) (L2 := [(4, _), (3, _), (2, _), (0, _), (1, _)]) rfl ?_
        refine lf_iload d_T_expand_40 rfl ?_
        refine lf_sipush d_T_expand_42 (v := Int32.ofInt ((256 : Nat) : Int)) (by decide +kernel) ?_
        refine gi_iandN (a := (fol J w s ni dt ot no (chc ni x c))) (b := 256) d_T_expand_45 ?_
        refine gi_top (show ((fol J w s ni dt ot no (chc ni x c) &&& 256 : Nat) : Int) = (if unl2 J w s ot no (chc ni x c) = true then 256 else 0 : Int) from by rw [fol_u hs7]; split <;> rfl) ?_
        refine gi_if_eq d_T_expand_46 (tgt := 67) (by decide) u256_r (fun hb46 => ?_) (fun hb46 => False.elim (by exact hb46 (u256_0.mpr hu)))
        exact j67 I1 he hcf
    · have hgo : bExp (KP J) (NX J w s ni dt) (UL J w s ni ot no) x (c + 1) b = bExp (KP J) (NX J w s ni dt) (UL J w s ni ot no) x c b := by
        show bStep (KP J) _ _ x c _ = _
        unfold bStep
        rw [if_neg hk]
      refine lf_iload_n d_T_expand_11 rfl rfl ?_
      refine lf_iconst d_T_expand_12 (v := Int32.ofInt ((1 : Nat) : Int)) rfl ?_
      refine lf_aload_n d_T_expand_13 rfl rfl rfl ?_
      refine gi_geti s_T_expand_14 (c_24 hT) rfl ?_
      refine gi_top hi91 ?_
      refine gi_ishlN (a := 1) (s := ni) d_T_expand_17 (by omega) ?_
      refine gi_top (show ((1 * 2 ^ ni : Nat) : Int) = ((2 ^ ni : Nat) : Int) from by rw [Nat.one_mul]) ?_
      refine gi_icmp_ge d_T_expand_18 (tgt := 104) (by decide) (by omega) (fun hb18 => False.elim (by omega)) (fun hb18 => ?_)
      refine lf_aload_n d_T_expand_21 rfl rfl rfl ?_
      refine gi_getr s_T_expand_22 (c_24 hT) rfl ?_
      refine lf_iload_n d_T_expand_25 rfl rfl ?_
      refine gw_callP s_T_expand_26 (v_areKeptInputs hx hV (c := c) hc64) (S := []) rfl rfl (gcR_2 (c_15 hV)) (by decide) (by decide +kernel) (Nat.le_of_ble_eq_true rfl) ?_
      refine gb_if_eq d_T_expand_29 (tgt := 98) (by decide) (fun hb29 => ?_) (fun hb29 => False.elim (by exact hk hb29))
      refine gi_iincN d_T_expand_98 rfl (by decide +kernel) (L2 := [(3, _), (2, _), (0, _), (1, _)]) rfl ?_
      refine lf_goto d_T_expand_101 (tgt := 11) (by decide) ?_
      exact ih (c + 1) I1 (by omega) he (by rw [hgo]; exact h)
theorem t_expand (hx : HX X L9 xs) {cc w s ni no n : Nat} {dt : Nat → Nat} {ot : Nat → Nat → Nat} (hT : clT sh cc (2 ^ (s - ni))) (hV : clV sh n w) (hcc : cc = 2 ^ s) (hs7 : s ≤ 7) (hi9 : I 24 2 = ni) (hnis : ni ≤ s) (hc6 : ∀ c, c < 2 ^ ni → c < 64) (hfk : FK I J w s ni dt ot no) {f : Nat} {b : BST} (hb : BI (KP J) (NX J w s ni dt) (UL J w s ni ot no) (2 ^ ni) f (2 ^ (s - ni)) b) {x : Nat} (hxs : bS b x = true) (hcm : CM I b (2 ^ (s - ni))) : EVv TT cl6 X mi_T_expand 2 [.ref 24, .int (Int32.ofInt ((x : Nat) : Int))] sh I J (fun I1 J1 => FRM I1 I ∧ CM I1 (bExp (KP J) (NX J w s ni dt) (UL J w s ni ot no) x (2 ^ ni) b) (2 ^ (s - ni)) ∧ J1 = J) := by
  have hxS := hb.2.1 x hxs
  have hS128 : 2 ^ (s - ni) ≤ 128 := pow2_7 (by omega)
  refine gw_enter (hx_ok hx) (by decide +kernel) (Nat.le_of_ble_eq_true rfl) (L := [(0, _), (1, _)]) rfl ?_
  refine lf_aload_n d_T_expand_0 rfl rfl rfl ?_
  refine gi_getr s_T_expand_1 (c_24 hT) rfl ?_
  refine lf_iload_n d_T_expand_4 rfl rfl ?_
  refine gw_callP s_T_expand_5 (m_numberAtN hx (c_40 hT) (by omega)) (S := []) rfl rfl gcR_4 (by decide) (by decide +kernel) (Nat.le_of_ble_eq_true rfl) ?_
  refine gi_top (hcm.2.2.1 x hxS hxs).2.2 ?_
  refine lf_istore_n d_T_expand_8 rfl (by decide +kernel) (L2 := [(2, _), (0, _), (1, _)]) rfl ?_
  refine lf_iconst d_T_expand_9 (v := Int32.ofInt ((0 : Nat) : Int)) rfl ?_
  refine lf_istore_n d_T_expand_10 rfl (by decide +kernel) (L2 := [(3, _), (2, _), (0, _), (1, _)]) rfl ?_
  refine t_exp_l hx hT hV hcc hs7 hi9 hnis hc6 hfk hb hxs (fun I1 he h => ?_) (2 ^ ni) 0 I (by omega) (fun _ _ _ _ => rfl) hcm
  refine gw_ret d_T_expand_104 rfl ?_
  exact ⟨rfl, rfl, he, h, rfl⟩
/-- the search is done, and stands in the arrays -/
def SR (I : mI) (J : mJ) (w s ni no : Nat) (fi dt : Nat → Nat) (ot : Nat → Nat → Nat) : Prop := FK I J w s ni dt ot no ∧ CM I (bfs (KP J) (NX J w s ni dt) (UL J w s ni ot no) (2 ^ ni) (fst fi s ni) (2 ^ (s - ni))) (2 ^ (s - ni))
theorem t_search_l (hx : HX X L9 xs) (hN : clN sh) {cc : Nat} {n w s : Nat} (hV : clV sh n w) (hn2 : n ≤ 80) (hs : I 15 1 = s) (hw : I 15 2 = w) (hsw : (s ≤ 6 ∧ w = 1) ∨ (s = 7 ∧ w = 2)) {ni no : Nat} {fi dt : Nat → Nat} {ot : Nat → Nat → Nat} (hT : clT sh cc (2 ^ (s - ni))) (hcc : cc = 2 ^ s) (hnt : NT I n s ni no fi dt ot) (hi9 : I 24 2 = ni) (hc6 : ∀ c, c < 2 ^ ni → c < 64) (hfk : FK I J w s ni dt ot no) (k90 : ∀ I1 : mI, FRM I1 I → CM I1 (bfs (KP J) (NX J w s ni dt) (UL J w s ni ot no) (2 ^ ni) (fst fi s ni) (2 ^ (s - ni))) (2 ^ (s - ni)) → LXf TT cl6 X mi_T_search (40 + 5) (1000 + 200 * 5) D P PX kc ks 90 [(0, .ref 24)] [] (hp sh I1 J)) : ∀ (d k : Nat) (I1 : mI), k + d = 2 ^ (s - ni) + 1 → FRM I1 I → CM I1 (bfs (KP J) (NX J w s ni dt) (UL J w s ni ot no) (2 ^ ni) (fst fi s ni) k) (2 ^ (s - ni)) → LXf TT cl6 X mi_T_search (40 + 5) (1000 + 200 * 5) D P PX kc ks 64 [(1, .int (Int32.ofInt ((k : Nat) : Int))), (0, .ref 24)] [] (hp sh I1 J) := by
  have hs7 : s ≤ 7 := by omega
  have hnis := hnt.2.1
  have hS128 : 2 ^ (s - ni) ≤ 128 := pow2_7 (by omega)
  have hf := fst_lt (fi := fi) (s := s) (ni := ni) (fun j h1 h2 => (hnt.2.2.2.1 j h1 h2).2.2.2)
  have hbi := BI_bfs (kp := KP J) (nx := NX J w s ni dt) (ul := UL J w s ni ot no) (m := 2 ^ ni) (f := fst fi s ni) (S := 2 ^ (s - ni)) hf (Nat.two_pow_pos ni) (fun x ch _ _ => nxt_lt)
  have hout : ∀ (k : Nat) (I1 : mI), k ≤ 2 ^ (s - ni) + 1 → bCnt (bfs (KP J) (NX J w s ni dt) (UL J w s ni ot no) (2 ^ ni) (fst fi s ni) k) ≤ k → FRM I1 I → CM I1 (bfs (KP J) (NX J w s ni dt) (UL J w s ni ot no) (2 ^ ni) (fst fi s ni) k) (2 ^ (s - ni)) → LXf TT cl6 X mi_T_search (40 + 5) (1000 + 200 * 5) D P PX kc ks 64 [(1, .int (Int32.ofInt ((k : Nat) : Int))), (0, .ref 24)] [] (hp sh I1 J) := by
    intro k I1 hk q he h
    have hcl := BI_le (hbi k)
    have hg : bfs (KP J) (NX J w s ni dt) (UL J w s ni ot no) (2 ^ ni) (fst fi s ni) k = bfs (KP J) (NX J w s ni dt) (UL J w s ni ot no) (2 ^ ni) (fst fi s ni) (2 ^ (s - ni)) := by
      rcases Nat.lt_or_ge (2 ^ (s - ni)) k with z | z
      · exact bfs_end (BI_le (hbi (2 ^ (s - ni)))) k (by omega)
      · exact (bfs_end q (2 ^ (s - ni)) z).symm
    refine lf_iload_n d_T_search_64 rfl rfl ?_
    refine lf_aload_n d_T_search_65 rfl rfl rfl ?_
    refine gi_geti s_T_search_66 (c_24 hT) rfl ?_
    refine gi_top h.1 ?_
    refine gi_icmp_ge d_T_search_69 (tgt := 90) (by decide) (by omega) (fun hb69 => ?_) (fun hb69 => False.elim (by omega))
    refine lf_sub [1] rfl ?_
    exact k90 I1 he (by rw [← hg]; exact h)
  intro d
  induction d with
  | zero =>
    intro k I1 hk he h
    exact hout k I1 (by omega) (by have := BI_le (hbi k); omega) he h
  | succ d ih =>
    intro k I1 hk he h
    have hcl := BI_le (hbi k)
    have hi91 : I1 24 2 = (ni : Int) := by rw [he 24 2 (by omega) (by omega)]; exact hi9
    rcases Nat.lt_or_ge k (bCnt (bfs (KP J) (NX J w s ni dt) (UL J w s ni ot no) (2 ^ ni) (fst fi s ni) k)) with q | q
    · have g := (hbi k).1 k q
      have hgo : bfs (KP J) (NX J w s ni dt) (UL J w s ni ot no) (2 ^ ni) (fst fi s ni) (k + 1) = bExp (KP J) (NX J w s ni dt) (UL J w s ni ot no) (bQ (bfs (KP J) (NX J w s ni dt) (UL J w s ni ot no) (2 ^ ni) (fst fi s ni) k) k) (2 ^ ni) (bfs (KP J) (NX J w s ni dt) (UL J w s ni ot no) (2 ^ ni) (fst fi s ni) k) := by
        show (if k < bCnt (bfs (KP J) (NX J w s ni dt) (UL J w s ni ot no) (2 ^ ni) (fst fi s ni) k) then _ else _) = _
        rw [if_pos q]
      refine lf_iload_n d_T_search_64 rfl rfl ?_
      refine lf_aload_n d_T_search_65 rfl rfl rfl ?_
      refine gi_geti s_T_search_66 (c_24 hT) rfl ?_
      refine gi_top h.1 ?_
      refine gi_icmp_ge d_T_search_69 (tgt := 90) (by decide) (by omega) (fun hb69 => False.elim (by omega)) (fun hb69 => ?_)
      refine lf_aload_n d_T_search_72 rfl rfl rfl ?_
      refine lf_aload_n d_T_search_73 rfl rfl rfl ?_
      refine gi_getr s_T_search_74 (c_24 hT) rfl ?_
      refine lf_iload_n d_T_search_77 rfl rfl ?_
      refine gw_callP s_T_search_78 (m_numberAtN hx (c_37 hT) (by omega)) (S := [_]) rfl rfl gcR_4 (by decide) (by decide +kernel) (Nat.le_of_ble_eq_true rfl) ?_
      refine gi_top (h.2.1 k q) ?_
      refine gw_callV s_T_search_81 (t_expand hx hT hV hcc hs7 hi91 hnis hc6 (FK_frm he hfk) (hbi k) g.2 h) (S := []) rfl rfl (gcR_2 (c_24 hT)) (by decide) (by decide +kernel) (Nat.le_of_ble_eq_true rfl) (fun I J w81 => ?_)
      obtain ⟨q1, q2, rfl⟩ := w81
      refine gi_iincN d_T_search_84 rfl (by decide +kernel) (L2 := [(1, _), (0, _)]) rfl ?_
      refine lf_goto d_T_search_87 (tgt := 64) (by decide) ?_
      exact ih (k + 1) I (by omega) (fun a z h1 h2 => (q1 a z h1 h2).trans (he a z h1 h2)) (by rw [hgo]; exact q2)
    · exact hout k I1 (by omega) q he h
end TT12
