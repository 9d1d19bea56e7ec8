section TT13
variable {X : XT} {L9 : Nat} {xs : Nat → Int32} {sh : sM} {I : mI} {J : mJ}

variable {D : mF} {P : Option Value → mF → Prop} {PX : String → mF → Prop} {kc ks : Nat}

/-- what of the memory the search leaves alone -/
def FRM2 (I1 I : mI) : Prop := ∀ a q, (a < 36 ∨ 41 < a) → ¬ (a = 24 ∧ 12 ≤ q) → I1 a q = I a q
theorem FRM2_rf : FRM2 I I := fun _ _ _ _ => rfl
theorem FRM2_tr {I1 I2 : mI} (h : FRM2 I2 I1) (g : FRM2 I1 I) : FRM2 I2 I := fun a q h1 h2 => (h a q h1 h2).trans (g a q h1 h2)
theorem FRM_2 {I1 : mI} (h : FRM I1 I) : FRM2 I1 I := fun a q h1 h2 => h a q (by omega) (fun z => h2 ⟨z.1, by omega⟩)
theorem NT_frm {I1 : mI} {n s ni no : Nat} {fi dt : Nat → Nat} {ot : Nat → Nat → Nat} (h : FRM2 I1 I) (g : NT I n s ni no fi dt ot) : NT I1 n s ni no fi dt ot := by
  have e : ∀ a, a < 24 → I1 a = I a := fun a ha => by funext q; exact h a q (by omega) (fun z => by omega)
  unfold NT
  rw [e 1 (by decide), e 12 (by decide), e 5 (by decide), e 7 (by decide), e 10 (by decide), e 9 (by decide)]
  exact g
theorem FK_2 {I1 : mI} {w s ni no : Nat} {dt : Nat → Nat} {ot : Nat → Nat → Nat} (h1 : I1 24 12 = I 24 12) (h2 : ∀ q, I1 36 q = I 36 q) (g : FK I J w s ni dt ot no) : FK I1 J w s ni dt ot no := by
  unfold FK at *
  rw [h1]
  exact ⟨g.1, fun c hc => by rw [h2]; exact g.2 c hc⟩
theorem CM_ini {f S : Nat} (hf : f < S) (h15 : I 24 15 = -1) (h38 : ∀ j, j < S → I 38 j = -1) :
    CM (ipt (ipt (ipt (ipt (ipt I 37 0 f) 38 f f) 39 f ((0 : Nat) : Int)) 40 f ((0 : Nat) : Int)) 24 14 ((0 + 1 : Nat) : Int)) (bIni f) S := by
  refine ⟨ipt_e, fun j hj => ?_, fun z hz hz2 => ?_, fun z hz hz2 => ?_, fun e => h15, fun x1 c1 e => ?_⟩
  · have hj2 : j = 0 := by have : j < 1 := hj; omega
    subst hj2
    show ipt I 37 0 f 37 0 = _
    rw [ipt_e]; rfl
  · have e : z = f := of_decide_eq_true hz2
    subst e
    show ipt (ipt I 37 0 z) 38 z z 38 z = _ ∧ ipt (ipt (ipt I 37 0 z) 38 z z) 39 z ((0 : Nat) : Int) 39 z = _ ∧ ipt (ipt (ipt (ipt I 37 0 z) 38 z z) 39 z ((0 : Nat) : Int)) 40 z ((0 : Nat) : Int) 40 z = _
    rw [ipt_e, ipt_e, ipt_e]
    exact ⟨rfl, rfl, rfl⟩
  · have q : ¬ z = f := of_decide_eq_false hz2
    show ipt (ipt I 37 0 f) 38 f f 38 z = -1
    rw [ipt_s, if_neg q]
    exact h38 z hz
  · cases e
theorem t_search (hx : HX X L9 xs) (hN : clN sh) {cc : Nat} {n w s : Nat} (hV : clV sh n w) (hn2 : n ≤ 80) (hs : I 15 1 = s) (hw : I 15 2 = w) (hsw : (s ≤ 6 ∧ w = 1) ∨ (s = 7 ∧ w = 2)) {ni no : Nat} {fi dt : Nat → Nat} {ot : Nat → Nat → Nat} (hT : clT sh cc (2 ^ (s - ni))) (hcc : cc = 2 ^ s) (hnt : NT I n s ni no fi dt ot) (hi9 : I 24 2 = ni) (hc6 : ∀ c, c < 2 ^ ni → c < 64) (hff : I 24 12 = 0 ∨ FK I J w s ni dt ot no) (hr13 : -2147483648 ≤ I 24 13 ∧ I 24 13 < 2147483648) (hr9 : -2147483648 ≤ I 15 9 ∧ I 15 9 < 2147483648) (hsr : I 24 13 = I 15 9 → SR I J w s ni no fi dt ot) : EVv TT cl6 X mi_T_search 5 [.ref 24] sh I J (fun I1 J1 => FRM2 I1 I ∧ SR I1 J w s ni no fi dt ot ∧ I1 24 13 = I 15 9 ∧ J1 = J) := by
  have hS128 : 2 ^ (s - ni) ≤ 128 := pow2_7 (by omega)
  have hf := fst_lt (fi := fi) (s := s) (ni := ni) (fun j h1 h2 => (hnt.2.2.2.1 j h1 h2).2.2.2)
  have k48 : ∀ I3 : mI, FRM2 I3 I → FK I3 J w s ni dt ot no → I3 24 13 = I 15 9 → I3 24 14 = ((0 : Nat) : Int) → I3 24 15 = -1 → (∀ j, j < 2 ^ (s - ni) → I3 38 j = -1) → LXf TT cl6 X mi_T_search (40 + 5) (1000 + 200 * 5) (hp sh I J) (pst fun v s9 I1 J1 => s9 = sh ∧ v = none ∧ FRM2 I1 I ∧ SR I1 J w s ni no fi dt ot ∧ I1 24 13 = I 15 9 ∧ J1 = J) (psx fun _ _ _ _ => False) 0 0 48 [(0, .ref 24)] [] (hp sh I3 J) := by
    intro I3 he hfk h13 h14 h15 h38
    have hs3 : I3 15 1 = (s : Int) := by rw [he 15 1 (by decide) (by omega)]; exact hs
    have hw3 : I3 15 2 = (w : Int) := by rw [he 15 2 (by decide) (by omega)]; exact hw
    have hi93 : I3 24 2 = (ni : Int) := by rw [he 24 2 (by decide) (by omega)]; exact hi9
    have hnt3 := NT_frm he hnt
    refine lf_aload_n d_T_search_48 rfl rfl rfl ?_
    refine lf_aload_n d_T_search_49 rfl rfl rfl ?_
    refine gw_callP s_T_search_50 (t_firstState hx hN hT hV hn2 hs3 hw3 hsw hnt3 hi93) (S := [_]) rfl rfl (gcR_2 (c_24 hT)) (by decide) (by decide +kernel) (Nat.le_of_ble_eq_true rfl) ?_
    refine lf_aload_n d_T_search_53 rfl rfl rfl ?_
    refine gw_callP s_T_search_54 (t_firstState hx hN hT hV hn2 hs3 hw3 hsw hnt3 hi93) (S := [_, _]) rfl rfl (gcR_2 (c_24 hT)) (by decide) (by decide +kernel) (Nat.le_of_ble_eq_true rfl) ?_
    refine lf_iconst d_T_search_57 (v := Int32.ofInt ((0 : Nat) : Int)) rfl ?_
    refine lf_iconst d_T_search_58 (v := Int32.ofInt ((0 : Nat) : Int)) rfl ?_
    refine gw_callV s_T_search_59 (t_meet (y := fst fi s ni) (x := fst fi s ni) (ch := 0) (dep := 0) hx hT hS128 h14 (Nat.two_pow_pos _) hf) (S := []) rfl rfl (gcR_2 (c_24 hT)) (by decide) (by decide +kernel) (Nat.le_of_ble_eq_true rfl) (fun I J w59 => ?_)
    obtain ⟨rfl, rfl⟩ := w59
    refine lf_iconst d_T_search_62 (v := Int32.ofInt ((0 : Nat) : Int)) rfl ?_
    refine lf_istore_n d_T_search_63 rfl (by decide +kernel) (L2 := [(1, _), (0, _)]) rfl ?_
    have e5 : FRM2 (ipt (ipt (ipt (ipt (ipt I3 37 0 (fst fi s ni)) 38 (fst fi s ni) (fst fi s ni)) 39 (fst fi s ni) ((0 : Nat) : Int)) 40 (fst fi s ni) ((0 : Nat) : Int)) 24 14 ((0 + 1 : Nat) : Int)) I := by
      intro a q h1 h2
      rw [← he a q h1 h2]
      by_cases z : a = 24
      · subst z
        rw [ipt_s, if_neg (fun z => h2 ⟨rfl, by omega⟩), ipt_o (by decide), ipt_o (by decide), ipt_o (by decide), ipt_o (by decide)]
      · rw [ipt_o z, ipt_o (by omega), ipt_o (by omega), ipt_o (by omega), ipt_o (by omega)]
    have hs5 := (e5 15 1 (by decide) (by omega)).trans hs
    have hw5 := (e5 15 2 (by decide) (by omega)).trans hw
    have hi95 := (e5 24 2 (by decide) (by omega)).trans hi9
    refine t_search_l hx hN hV hn2 hs5 hw5 hsw hT hcc (NT_frm e5 hnt) hi95 hc6 (FK_2 rfl (fun _ => rfl) hfk) (fun I1 h1 h2 => ?_) (2 ^ (s - ni) + 1) 0 _ (by omega) (fun _ _ _ _ => rfl) (CM_ini hf h15 h38)
    refine gw_ret d_T_search_90 rfl ?_
    exact ⟨rfl, rfl, FRM2_tr (FRM_2 h1) e5, ⟨FK_frm h1 (FK_2 rfl (fun _ => rfl) hfk), h2⟩, by rw [h1 24 13 (by decide) (by omega)]; exact h13, rfl⟩
  have kA : ∀ I1 I2 : mI, (∀ a q, ¬ a = 36 → ¬ (a = 24 ∧ q = 12) → I1 a q = ipt I 24 13 (I 15 9) a q) → FK I1 J w s ni dt ot no → (∀ a, ¬ a = 38 → I2 a = I1 a) → (∀ j, j < 2 ^ (s - ni) → I2 38 j = -1) → LXf TT cl6 X mi_T_search (40 + 5) (1000 + 200 * 5) (hp sh I J) (pst fun v s9 I1 J1 => s9 = sh ∧ v = none ∧ FRM2 I1 I ∧ SR I1 J w s ni no fi dt ot ∧ I1 24 13 = I 15 9 ∧ J1 = J) (psx fun _ _ _ _ => False) 0 0 48 [(0, .ref 24)] [] (hp sh (ipt (ipt I2 24 14 ((0 : Nat) : Int)) 24 15 (-1)) J) := by
    intro I1 I2 h1 h2 h3 h4
    refine k48 _ (fun a q g1 g2 => ?_) (FK_2 ?_ (fun q => ?_) h2) ?_ ?_ ipt_e (fun j hj => ?_)
    · by_cases z : a = 24
      · subst z
        rw [ipt_s, if_neg (fun z => g2 ⟨rfl, by omega⟩), ipt_s, if_neg (fun z => g2 ⟨rfl, by omega⟩), h3 24 (by decide), h1 24 q (by decide) (fun z => g2 ⟨rfl, by omega⟩), ipt_s, if_neg (fun z => g2 ⟨rfl, by omega⟩)]
      · rw [ipt_o z, ipt_o z, h3 a (by omega), h1 a q (by omega) (fun y => z y.1), ipt_o z]
    · rw [ipt_s, if_neg (by decide), ipt_s, if_neg (by decide), h3 24 (by decide)]
    · rw [ipt_o (by decide), ipt_o (by decide), h3 36 (by decide)]
    · rw [ipt_s, if_neg (by decide), ipt_s, if_neg (by decide), h3 24 (by decide), h1 24 13 (by decide) (by omega), ipt_e]
    · rw [ipt_s, if_neg (by decide), ipt_e]
    · rw [ipt_o (by decide), ipt_o (by decide)]
      exact h4 j hj
  refine gw_enter (hx_ok hx) (by decide +kernel) (Nat.le_of_ble_eq_true rfl) (L := [(0, _)]) rfl ?_
  refine lf_aload_n d_T_search_0 rfl rfl rfl ?_
  refine gi_geti s_T_search_1 (c_24 hT) rfl ?_
  refine lf_aload_n d_T_search_4 rfl rfl rfl ?_
  refine gi_getr s_T_search_5 (c_24 hT) rfl ?_
  refine gi_geti s_T_search_8 (c_15 hV) rfl ?_
  refine gi_icmp_ne d_T_search_11 (tgt := 15) (by decide) (by omega) (fun hb11 => ?_) (fun hb11 => ?_)
  · refine lf_aload_n d_T_search_15 rfl rfl rfl ?_
    refine lf_aload_n d_T_search_16 rfl rfl rfl ?_
    refine gi_getr s_T_search_17 (c_24 hT) rfl ?_
    refine gi_geti s_T_search_20 (c_15 hV) rfl ?_
    refine gi_puti s_T_search_23 (c_24 hT) rfl ?_
    refine lf_aload_n d_T_search_26 rfl rfl rfl ?_
    have e2 : FRM2 (ipt I 24 13 (I 15 9)) I := fun a q h1 h2 => by
      by_cases z : a = 24
      · subst z; rw [ipt_s, if_neg (fun z => h2 ⟨rfl, by omega⟩)]
      · rw [ipt_o z]
    have hs2 := (e2 15 1 (by decide) (by omega)).trans hs
    have hw2 := (e2 15 2 (by decide) (by omega)).trans hw
    have hi92 := (e2 24 2 (by decide) (by omega)).trans hi9
    have hnt2 := NT_frm e2 hnt
    rcases hff with h12 | hfk
    · refine gw_callV s_T_search_27 (t_fillFollow (I := ipt I 24 13 (I 15 9)) hx hN hT hV hn2 hs2 hw2 hsw hnt2 hi92 hcc h12) (S := []) rfl rfl (gcR_2 (c_24 hT)) (by decide) (by decide +kernel) (Nat.le_of_ble_eq_true rfl) (fun I J w27 => ?_)
      obtain ⟨w27a, w27b, rfl⟩ := w27
      
      refine lf_aload_n d_T_search_30 rfl rfl rfl ?_
      refine gi_getr s_T_search_31 (c_24 hT) rfl ?_
      refine lf_iconst d_T_search_34 (v := Int32.ofInt (-1)) rfl ?_
      refine gw_callV s_T_search_35 (j_fill (x := -1) hx (c_38 hT) (by omega)) (S := []) rfl rfl gcR_1 (by decide) (by decide +kernel) (Nat.le_of_ble_eq_true rfl) (fun I J w35 => ?_)
      obtain ⟨w35a, w35b, rfl⟩ := w35
      refine lf_aload_n d_T_search_38 rfl rfl rfl ?_
      refine lf_iconst d_T_search_39 (v := Int32.ofInt ((0 : Nat) : Int)) rfl ?_
      refine gi_puti s_T_search_40 (c_24 hT) rfl ?_
      refine lf_aload_n d_T_search_43 rfl rfl rfl ?_
      refine lf_iconst d_T_search_44 (v := Int32.ofInt (-1)) rfl ?_
      refine gi_puti s_T_search_45 (c_24 hT) rfl ?_
      exact kA _ _ w27a w27b w35a w35b
    · refine gw_callN s_T_search_27 (t_fillFollow_k (I := ipt I 24 13 (I 15 9)) hx hT hfk.1) (S := []) rfl rfl (gcR_2 (c_24 hT)) (by decide) (by decide +kernel) (Nat.le_of_ble_eq_true rfl) ?_
      refine lf_aload_n d_T_search_30 rfl rfl rfl ?_
      refine gi_getr s_T_search_31 (c_24 hT) rfl ?_
      refine lf_iconst d_T_search_34 (v := Int32.ofInt (-1)) rfl ?_
      refine gw_callV s_T_search_35 (j_fill (x := -1) hx (c_38 hT) (by omega)) (S := []) rfl rfl gcR_1 (by decide) (by decide +kernel) (Nat.le_of_ble_eq_true rfl) (fun I J w35 => ?_)
      obtain ⟨w35a, w35b, rfl⟩ := w35
      refine lf_aload_n d_T_search_38 rfl rfl rfl ?_
      refine lf_iconst d_T_search_39 (v := Int32.ofInt ((0 : Nat) : Int)) rfl ?_
      refine gi_puti s_T_search_40 (c_24 hT) rfl ?_
      refine lf_aload_n d_T_search_43 rfl rfl rfl ?_
      refine lf_iconst d_T_search_44 (v := Int32.ofInt (-1)) rfl ?_
      refine gi_puti s_T_search_45 (c_24 hT) rfl ?_
      exact kA _ _ (fun _ _ _ _ => rfl) (FK_2 rfl (fun _ => rfl) hfk) w35a w35b
  · refine gw_ret d_T_search_14 rfl ?_
    exact ⟨rfl, rfl, FRM2_rf, hsr hb11, hb11, rfl⟩
end TT13
