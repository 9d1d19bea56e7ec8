section TT10
variable {X : XT} {L9 : Nat} {xs : Nat → Int32} {sh : sM} {I : mI} {J : mJ}

variable {D : mF} {P : Option Value → mF → Prop} {PX : String → mF → Prop} {kc ks : Nat}

def chc (ni x ch : Nat) : Nat := x * 2 ^ ni ||| ch
theorem chc_lt {ni s x ch : Nat} (hn : ni ≤ s) (hx : x < 2 ^ (s - ni)) (hc : ch < 2 ^ ni) : chc ni x ch < 2 ^ s := by
  refine or_lt2 ?_ (Nat.lt_of_lt_of_le hc (Nat.pow_le_pow_right (by decide) hn))
  rw [show s = (s - ni) + ni by omega, Nat.pow_add]
  exact Nat.mul_lt_mul_of_pos_right hx (Nat.two_pow_pos ni)
def unl2 (J : mJ) (w s : Nat) (ot : Nat → Nat → Nat) (no c : Nat) : Bool := !decide (out J w s ot no 0 c = out J w s ot no 1 c)
def fol (J : mJ) (w s ni : Nat) (dt : Nat → Nat) (ot : Nat → Nat → Nat) (no c : Nat) : Nat := nxt J w s ni dt c ||| (if unl2 J w s ot no c then 256 else 0)
theorem or256 : ∀ x, x < 128 → (x ||| 256) &&& 256 = 256 ∧ (x ||| 256) &&& 255 = x ∧ (x ||| 0) &&& 256 = 0 ∧ (x ||| 0) &&& 255 = x ∧ x ||| 256 < 512 ∧ x ||| 0 = x := by decide +kernel
theorem nxt128 {w s ni c : Nat} {dt : Nat → Nat} (hs : s ≤ 7) : nxt J w s ni dt c < 128 := Nat.lt_of_lt_of_le nxt_lt (Nat.le_trans (Nat.pow_le_pow_right (n := 2) (by decide) (Nat.sub_le s ni)) (pow2_7 hs))
theorem fol_u {w s ni no c : Nat} {dt : Nat → Nat} {ot : Nat → Nat → Nat} (hs : s ≤ 7) : fol J w s ni dt ot no c &&& 256 = if unl2 J w s ot no c = true then 256 else 0 := by
  have h := or256 _ (nxt128 (J := J) (w := w) (ni := ni) (dt := dt) (c := c) hs)
  unfold fol
  by_cases q : unl2 J w s ot no c = true
  · rw [if_pos q]; exact h.1
  · rw [if_neg q]; exact h.2.2.1
theorem fol_n {w s ni no c : Nat} {dt : Nat → Nat} {ot : Nat → Nat → Nat} (hs : s ≤ 7) : fol J w s ni dt ot no c &&& 255 = nxt J w s ni dt c := by
  have h := or256 _ (nxt128 (J := J) (w := w) (ni := ni) (dt := dt) (c := c) hs)
  unfold fol
  by_cases q : unl2 J w s ot no c = true
  · rw [if_pos q]; exact h.2.1
  · rw [if_neg q]; exact h.2.2.2.1
theorem fol_0 {w s ni no c : Nat} {dt : Nat → Nat} {ot : Nat → Nat → Nat} (hs : s ≤ 7) (h0 : unl2 J w s ot no c = false) : fol J w s ni dt ot no c = nxt J w s ni dt c := by
  have h := or256 _ (nxt128 (J := J) (w := w) (ni := ni) (dt := dt) (c := c) hs)
  unfold fol
  rw [h0]
  exact h.2.2.2.2.2
theorem fol_lt {w s ni no c : Nat} {dt : Nat → Nat} {ot : Nat → Nat → Nat} (hs : s ≤ 7) : fol J w s ni dt ot no c < 512 := by
  have h := or256 _ (nxt128 (J := J) (w := w) (ni := ni) (dt := dt) (c := c) hs)
  have h2 := nxt128 (J := J) (w := w) (ni := ni) (dt := dt) (c := c) hs
  unfold fol
  by_cases q : unl2 J w s ot no c = true
  · rw [if_pos q]; exact h.2.2.2.2.1
  · rw [if_neg q]
    show nxt J w s ni dt c ||| 0 < 512
    rw [h.2.2.2.2.2]; omega
/-- what follows each choice is known -/
def FK (I : mI) (J : mJ) (w s ni : Nat) (dt : Nat → Nat) (ot : Nat → Nat → Nat) (no : Nat) : Prop := I 24 12 = 1 ∧ ∀ c, c < 2 ^ s → I 36 c = fol J w s ni dt ot no c
theorem t_follow_l (hx : HX X L9 xs) (hN : clN sh) {cc S9 : Nat} (hT : clT sh cc S9) {n w s : Nat} (hV : clV sh n w) (hn2 : n ≤ 80) (hs : I 15 1 = s) (hw : I 15 2 = w) (hsw : (s ≤ 6 ∧ w = 1) ∨ (s = 7 ∧ w = 2)) {ni no : Nat} {fi dt : Nat → Nat} {ot : Nat → Nat → Nat} (hnt : NT I n s ni no fi dt ot) (hi9 : I 24 2 = ni) (hcc : cc = 2 ^ s) (k74 : ∀ I1 : mI, ((∀ a q, ¬ a = 36 → ¬ (a = 24 ∧ q = 12) → I1 a q = I a q) ∧ I1 24 12 = 1 ∧ (∀ e, e < 2 ^ s → I1 36 e = fol J w s ni dt ot no e)) → LXf TT cl6 X mi_T_fillFollow (40 + 4) (1000 + 200 * 4) D P PX kc ks 74 [(1, .int (Int32.ofInt ((2 ^ s : Nat) : Int))), (0, .ref 24)] [] (hp sh I1 J)) : ∀ (d c : Nat) (I1 : mI), c + d = 2 ^ s → ((∀ a q, ¬ a = 36 → ¬ (a = 24 ∧ q = 12) → I1 a q = I a q) ∧ I1 24 12 = 1 ∧ (∀ e, e < c → I1 36 e = fol J w s ni dt ot no e)) → LXf TT cl6 X mi_T_fillFollow (40 + 4) (1000 + 200 * 4) D P PX kc ks 15 [(1, .int (Int32.ofInt ((c : Nat) : Int))), (0, .ref 24)] [] (hp sh I1 J) := by
  subst hcc
  have h128 := pow2_7 (s := s) (by omega)
  intro d
  induction d with
  | zero =>
    intro c I1 hc hi
    have hc2 : c = 2 ^ s := by omega
    refine lf_iload_n d_T_fillFollow_15 rfl rfl ?_
    refine lf_aload_n d_T_fillFollow_16 rfl rfl rfl ?_
    refine gi_getr s_T_fillFollow_17 (c_24 hT) rfl ?_
    refine gi_len d_T_fillFollow_20 (c_36 hT) ?_
    refine gi_icmp_ge d_T_fillFollow_21 (tgt := 74) (by decide) (by omega) (fun hb21 => ?_) (fun hb21 => False.elim (by omega))
    rw [hc2] at hi ⊢
    exact k74 I1 hi
  | succ d ih =>
    intro c I1 hc hi
    have hnt1 : NT I1 n s ni no fi dt ot := by
      unfold NT
      have e : ∀ a, ¬ a = 36 → ¬ a = 24 → I1 a = I a := fun a h1 h2 => by funext q; exact hi.1 a q h1 (fun z => h2 z.1)
      rw [e 1 (by decide) (by decide), e 12 (by decide) (by decide), e 5 (by decide) (by decide), e 7 (by decide) (by decide), e 10 (by decide) (by decide), e 9 (by decide) (by decide)]
      exact hnt
    have hs1 : I1 15 1 = (s : Int) := by rw [hi.1 15 1 (by decide) (by omega)]; exact hs
    have hw1 : I1 15 2 = (w : Int) := by rw [hi.1 15 2 (by decide) (by omega)]; exact hw
    have hi91 : I1 24 2 = (ni : Int) := by rw [hi.1 24 2 (by decide) (by omega)]; exact hi9
    have hno4 : no ≤ 4 := hnt.2.2.2.2.2.1
    have ho0 := out_lt (J := J) (w := w) (s := s) (ot := ot) (t := 0) (c := c) hno4
    have ho1 := out_lt (J := J) (w := w) (s := s) (ot := ot) (t := 1) (c := c) hno4
    have h128 := pow2_7 (s := s) (by omega)
    refine lf_iload_n d_T_fillFollow_15 rfl rfl ?_
    refine lf_aload_n d_T_fillFollow_16 rfl rfl rfl ?_
    refine gi_getr s_T_fillFollow_17 (c_24 hT) rfl ?_
    refine gi_len d_T_fillFollow_20 (c_36 hT) ?_
    refine gi_icmp_ge d_T_fillFollow_21 (tgt := 74) (by decide) (by omega) (fun hb21 => False.elim (by omega)) (fun hb21 => ?_)
    refine lf_aload_n d_T_fillFollow_24 rfl rfl rfl ?_
    refine lf_iconst d_T_fillFollow_25 (v := Int32.ofInt ((0 : Nat) : Int)) rfl ?_
    refine lf_iload_n d_T_fillFollow_26 rfl rfl ?_
    refine gw_callP s_T_fillFollow_27 (t_outputsAt hx hN hT hV hn2 hs1 hw1 hsw hnt1 hi91 (t := 0) (c := c) (by decide)) (S := []) rfl rfl (gcR_2 (c_24 hT)) (by decide) (by decide +kernel) (Nat.le_of_ble_eq_true rfl) ?_
    refine lf_aload_n d_T_fillFollow_30 rfl rfl rfl ?_
    refine lf_iconst d_T_fillFollow_31 (v := Int32.ofInt ((1 : Nat) : Int)) rfl ?_
    refine lf_iload_n d_T_fillFollow_32 rfl rfl ?_
    refine gw_callP s_T_fillFollow_33 (t_outputsAt hx hN hT hV hn2 hs1 hw1 hsw hnt1 hi91 (t := 1) (c := c) (by decide)) (S := [_]) rfl rfl (gcR_2 (c_24 hT)) (by decide) (by decide +kernel) (Nat.le_of_ble_eq_true rfl) ?_
    refine gi_icmp_eq d_T_fillFollow_36 (tgt := 43) (by decide) (by omega) (fun hb36 => ?_) (fun hb36 => ?_)
    · refine lf_iconst d_T_fillFollow_43 (v := Int32.ofInt ((0 : Nat) : Int)) rfl ?_
      refine lf_istore_n d_T_fillFollow_44 rfl (by decide +kernel) (L2 := [(2, _), (1, _), (0, _)]) rfl ?_
      refine lf_aload_n d_T_fillFollow_45 rfl rfl rfl ?_
      refine gi_getr s_T_fillFollow_46 (c_24 hT) rfl ?_
      refine lf_iload_n d_T_fillFollow_49 rfl rfl ?_
      refine lf_aload_n d_T_fillFollow_50 rfl rfl rfl ?_
      refine lf_iload_n d_T_fillFollow_51 rfl rfl ?_
      refine gw_callP s_T_fillFollow_52 (t_stateBehind hx hN hT hV hn2 hs1 hw1 hsw hnt1 hi91 (c := c)) (S := [_, _]) rfl rfl (gcR_2 (c_24 hT)) (by decide) (by decide +kernel) (Nat.le_of_ble_eq_true rfl) ?_
      refine lf_iload_n d_T_fillFollow_55 rfl rfl ?_
      refine gi_if_eq d_T_fillFollow_56 (tgt := 65) (by decide) (by omega) (fun hb56 => ?_) (fun hb56 => ?_)
      · refine lf_iconst d_T_fillFollow_65 (v := Int32.ofInt ((0 : Nat) : Int)) rfl ?_
        refine gi_iorN (a := (nxt J w s ni dt c)) (b := 0) d_T_fillFollow_66 ?_
        refine gi_iastoreN d_T_fillFollow_67 (c_36 hT) (by omega) ?_
        refine gi_iincN d_T_fillFollow_68 rfl (by decide +kernel) (L2 := [(1, _), (2, _), (0, _)]) rfl ?_
        refine lf_goto d_T_fillFollow_71 (tgt := 15) (by decide) ?_
        refine lf_sub [0, 2] rfl ?_
        refine ih (c + 1) _ (by omega) ⟨fun a q h1 h2 => ?_, ?_, fun e he => ?_⟩
        · rw [ipt_o h1]; exact hi.1 a q h1 h2
        · exact hi.2.1
        · rw [ipt_s]
          by_cases q : e = c
          · rw [if_pos q, q]
            refine congrArg (fun z : Nat => (z : Int)) ?_
            unfold fol
            first
              | (have hu : unl2 J w s ot no c = true := by
                   unfold unl2
                   rw [decide_eq_false (by omega)]; rfl
                 rw [hu]; rfl)
              | (have hu : unl2 J w s ot no c = false := by
                   unfold unl2
                   rw [decide_eq_true (by omega)]; rfl
                 rw [hu]; rfl)
          · rw [if_neg q]; exact hi.2.2 e (by omega)
      · refine lf_sipush d_T_fillFollow_59 (v := Int32.ofInt ((256 : Nat) : Int)) (by decide +kernel) ?_
        refine lf_goto d_T_fillFollow_62 (tgt := 66) (by decide) ?_
        refine gi_iorN (a := (nxt J w s ni dt c)) (b := 256) d_T_fillFollow_66 ?_
        refine gi_iastoreN d_T_fillFollow_67 (c_36 hT) (by omega) ?_
        refine gi_iincN d_T_fillFollow_68 rfl (by decide +kernel) (L2 := [(1, _), (2, _), (0, _)]) rfl ?_
        refine lf_goto d_T_fillFollow_71 (tgt := 15) (by decide) ?_
        refine lf_sub [0, 2] rfl ?_
        refine ih (c + 1) _ (by omega) ⟨fun a q h1 h2 => ?_, ?_, fun e he => ?_⟩
        · rw [ipt_o h1]; exact hi.1 a q h1 h2
        · exact hi.2.1
        · rw [ipt_s]
          by_cases q : e = c
          · rw [if_pos q, q]
            refine congrArg (fun z : Nat => (z : Int)) ?_
            unfold fol
            first
              | (have hu : unl2 J w s ot no c = true := by
                   unfold unl2
                   rw [decide_eq_false (by omega)]; rfl
                 rw [hu]; rfl)
              | (have hu : unl2 J w s ot no c = false := by
                   unfold unl2
                   rw [decide_eq_true (by omega)]; rfl
                 rw [hu]; rfl)
          · rw [if_neg q]; exact hi.2.2 e (by omega)
    · refine lf_iconst d_T_fillFollow_39 (v := Int32.ofInt ((1 : Nat) : Int)) rfl ?_
      refine lf_goto d_T_fillFollow_40 (tgt := 44) (by decide) ?_
      refine lf_istore_n d_T_fillFollow_44 rfl (by decide +kernel) (L2 := [(2, _), (1, _), (0, _)]) rfl ?_
      refine lf_aload_n d_T_fillFollow_45 rfl rfl rfl ?_
      refine gi_getr s_T_fillFollow_46 (c_24 hT) rfl ?_
      refine lf_iload_n d_T_fillFollow_49 rfl rfl ?_
      refine lf_aload_n d_T_fillFollow_50 rfl rfl rfl ?_
      refine lf_iload_n d_T_fillFollow_51 rfl rfl ?_
      refine gw_callP s_T_fillFollow_52 (t_stateBehind hx hN hT hV hn2 hs1 hw1 hsw hnt1 hi91 (c := c)) (S := [_, _]) rfl rfl (gcR_2 (c_24 hT)) (by decide) (by decide +kernel) (Nat.le_of_ble_eq_true rfl) ?_
      refine lf_iload_n d_T_fillFollow_55 rfl rfl ?_
      refine gi_if_eq d_T_fillFollow_56 (tgt := 65) (by decide) (by omega) (fun hb56 => ?_) (fun hb56 => ?_)
      · refine lf_iconst d_T_fillFollow_65 (v := Int32.ofInt ((0 : Nat) : Int)) rfl ?_
        refine gi_iorN (a := (nxt J w s ni dt c)) (b := 0) d_T_fillFollow_66 ?_
        refine gi_iastoreN d_T_fillFollow_67 (c_36 hT) (by omega) ?_
        refine gi_iincN d_T_fillFollow_68 rfl (by decide +kernel) (L2 := [(1, _), (2, _), (0, _)]) rfl ?_
        refine lf_goto d_T_fillFollow_71 (tgt := 15) (by decide) ?_
        refine lf_sub [0, 2] rfl ?_
        refine ih (c + 1) _ (by omega) ⟨fun a q h1 h2 => ?_, ?_, fun e he => ?_⟩
        · rw [ipt_o h1]; exact hi.1 a q h1 h2
        · exact hi.2.1
        · rw [ipt_s]
          by_cases q : e = c
          · rw [if_pos q, q]
            refine congrArg (fun z : Nat => (z : Int)) ?_
            unfold fol
            first
              | (have hu : unl2 J w s ot no c = true := by
                   unfold unl2
                   rw [decide_eq_false (by omega)]; rfl
                 rw [hu]; rfl)
              | (have hu : unl2 J w s ot no c = false := by
                   unfold unl2
                   rw [decide_eq_true (by omega)]; rfl
                 rw [hu]; rfl)
          · rw [if_neg q]; exact hi.2.2 e (by omega)
      · refine lf_sipush d_T_fillFollow_59 (v := Int32.ofInt ((256 : Nat) : Int)) (by decide +kernel) ?_
        refine lf_goto d_T_fillFollow_62 (tgt := 66) (by decide) ?_
        refine gi_iorN (a := (nxt J w s ni dt c)) (b := 256) d_T_fillFollow_66 ?_
        refine gi_iastoreN d_T_fillFollow_67 (c_36 hT) (by omega) ?_
        refine gi_iincN d_T_fillFollow_68 rfl (by decide +kernel) (L2 := [(1, _), (2, _), (0, _)]) rfl ?_
        refine lf_goto d_T_fillFollow_71 (tgt := 15) (by decide) ?_
        refine lf_sub [0, 2] rfl ?_
        refine ih (c + 1) _ (by omega) ⟨fun a q h1 h2 => ?_, ?_, fun e he => ?_⟩
        · rw [ipt_o h1]; exact hi.1 a q h1 h2
        · exact hi.2.1
        · rw [ipt_s]
          by_cases q : e = c
          · rw [if_pos q, q]
            refine congrArg (fun z : Nat => (z : Int)) ?_
            unfold fol
            first
              | (have hu : unl2 J w s ot no c = true := by
                   unfold unl2
                   rw [decide_eq_false (by omega)]; rfl
                 rw [hu]; rfl)
              | (have hu : unl2 J w s ot no c = false := by
                   unfold unl2
                   rw [decide_eq_true (by omega)]; rfl
                 rw [hu]; rfl)
          · rw [if_neg q]; exact hi.2.2 e (by omega)
theorem t_fillFollow (hx : HX X L9 xs) (hN : clN sh) {cc S9 : Nat} (hT : clT sh cc S9) {n w s : Nat} (hV : clV sh n w) (hn2 : n ≤ 80) (hs : I 15 1 = s) (hw : I 15 2 = w) (hsw : (s ≤ 6 ∧ w = 1) ∨ (s = 7 ∧ w = 2)) {ni no : Nat} {fi dt : Nat → Nat} {ot : Nat → Nat → Nat} (hnt : NT I n s ni no fi dt ot) (hi9 : I 24 2 = ni) (hcc : cc = 2 ^ s) (h12 : I 24 12 = 0) : EVv TT cl6 X mi_T_fillFollow 4 [.ref 24] sh I J (fun I1 J1 => (∀ a q, ¬ a = 36 → ¬ (a = 24 ∧ q = 12) → I1 a q = I a q) ∧ FK I1 J w s ni dt ot no ∧ J1 = J) := by
  refine gw_enter (hx_ok hx) (by decide +kernel) (Nat.le_of_ble_eq_true rfl) (L := [(0, _)]) rfl ?_
  refine lf_aload_n d_T_fillFollow_0 rfl rfl rfl ?_
  refine gi_geti s_T_fillFollow_1 (c_24 hT) rfl ?_
  refine gi_if_eq d_T_fillFollow_4 (tgt := 8) (by decide) (by omega) (fun hb4 => ?_) (fun hb4 => False.elim (by omega))
  refine lf_aload_n d_T_fillFollow_8 rfl rfl rfl ?_
  refine lf_iconst d_T_fillFollow_9 (v := Int32.ofInt ((1 : Nat) : Int)) rfl ?_
  refine gi_putz s_T_fillFollow_10 (c_24 hT) rfl (by omega) ?_
  refine lf_iconst d_T_fillFollow_13 (v := Int32.ofInt ((0 : Nat) : Int)) rfl ?_
  refine lf_istore_n d_T_fillFollow_14 rfl (by decide +kernel) (L2 := [(1, _), (0, _)]) rfl ?_
  refine t_follow_l hx hN hT hV hn2 hs hw hsw hnt hi9 hcc (fun I1 hi => ?_) (2 ^ s) 0 _ (by omega) ⟨fun a q h1 h2 => ?_, ipt_e, fun c hc => absurd hc (Nat.not_lt_zero c)⟩
  · refine gw_ret d_T_fillFollow_74 rfl ?_
    exact ⟨rfl, rfl, hi.1, ⟨hi.2.1, hi.2.2⟩, rfl⟩
  · by_cases e : a = 24
    · subst e
      rw [ipt_s, if_neg (fun z => h2 ⟨rfl, z⟩)]
    · rw [ipt_o e]
theorem t_fillFollow_k (hx : HX X L9 xs) {cc S9 : Nat} (hT : clT sh cc S9) (h12 : I 24 12 = 1) : EVn TT cl6 X mi_T_fillFollow 4 [.ref 24] sh I J := by
  refine gw_enter (hx_ok hx) (by decide +kernel) (Nat.le_of_ble_eq_true rfl) (L := [(0, _)]) rfl ?_
  refine lf_aload_n d_T_fillFollow_0 rfl rfl rfl ?_
  refine gi_geti s_T_fillFollow_1 (c_24 hT) rfl ?_
  refine gi_if_eq d_T_fillFollow_4 (tgt := 8) (by decide) (by omega) (fun hb4 => False.elim (by omega)) (fun hb4 => ?_)
  refine gw_ret d_T_fillFollow_7 rfl ?_
  exact ⟨rfl, rfl, rfl, rfl⟩
theorem t_stepFrom (hx : HX X L9 xs) {cc S9 w s ni no : Nat} {dt : Nat → Nat} {ot : Nat → Nat → Nat} (hT : clT sh cc S9) (hcc : cc = 2 ^ s) (hs7 : s ≤ 7) (hi9 : I 24 2 = ni) (hnis : ni ≤ s) (hfk : FK I J w s ni dt ot no) {x ch : Nat} (hx9 : x < 2 ^ (s - ni)) (hch : ch < 2 ^ ni) : EVp TT cl6 X mi_T_stepFrom 1 [.ref 24, .int (Int32.ofInt ((x : Nat) : Int)), .int (Int32.ofInt ((ch : Nat) : Int))] sh I J (.int (Int32.ofInt ((fol J w s ni dt ot no (chc ni x ch) : Nat) : Int))) := by
  have hlt := chc_lt hnis hx9 hch
  have h128 := pow2_7 hs7
  refine gw_enter (hx_ok hx) (by decide +kernel) (Nat.le_of_ble_eq_true rfl) (L := [(0, _), (1, _), (2, _)]) rfl ?_
  refine lf_aload_n d_T_stepFrom_0 rfl rfl rfl ?_
  refine gi_getr s_T_stepFrom_1 (c_24 hT) rfl ?_
  refine lf_iload_n d_T_stepFrom_4 rfl rfl ?_
  refine lf_aload_n d_T_stepFrom_5 rfl rfl rfl ?_
  refine gi_geti s_T_stepFrom_6 (c_24 hT) rfl ?_
  refine gi_top hi9 ?_
  refine gi_ishlN (a := x) (s := ni) d_T_stepFrom_9 (by omega) ?_
  refine lf_iload_n d_T_stepFrom_10 rfl rfl ?_
  refine gi_iorN (a := (x * 2 ^ ni)) (b := ch) d_T_stepFrom_11 ?_
  refine gw_callP s_T_stepFrom_12 (m_numberAtN hx (c_36 hT) (k := x * 2 ^ ni ||| ch) ⟨by rw [hcc]; exact hlt, by omega⟩) (S := []) rfl rfl gcR_4 (by decide) (by decide +kernel) (Nat.le_of_ble_eq_true rfl) ?_
  refine gi_top (show I 36 (x * 2 ^ ni ||| ch) = ((fol J w s ni dt ot no (chc ni x ch) : Nat) : Int) from hfk.2 _ hlt) ?_
  refine gw_iret d_T_stepFrom_15 rfl ?_
  exact ⟨rfl, rfl, rfl, rfl⟩
theorem t_traceAt (hx : HX X L9 xs) {cc S9 : Nat} (hT : clT sh cc S9) {k : Nat} (hk : k < S9 ∧ S9 ≤ 2147483647) : EVp TT cl6 X mi_T_traceAt 1 [.ref 24, .int (Int32.ofInt ((k : Nat) : Int))] sh I J (.int (Int32.ofInt (I 41 k))) := by
  refine gw_enter (hx_ok hx) (by decide +kernel) (Nat.le_of_ble_eq_true rfl) (L := [(0, _), (1, _)]) rfl ?_
  refine lf_aload_n d_T_traceAt_0 rfl rfl rfl ?_
  refine gi_getr s_T_traceAt_1 (c_24 hT) rfl ?_
  refine lf_iload_n d_T_traceAt_4 rfl rfl ?_
  refine gw_callP s_T_traceAt_5 (m_numberAtN hx (c_41 hT) (by omega)) (S := []) rfl rfl gcR_4 (by decide) (by decide +kernel) (Nat.le_of_ble_eq_true rfl) ?_
  refine gw_iret d_T_traceAt_8 rfl ?_
  exact ⟨rfl, rfl, rfl, rfl⟩
theorem t_traceAt_n (hx : HX X L9 xs) {cc S9 : Nat} (hT : clT sh cc S9) (hk : S9 ≤ 2147483647) : EVp TT cl6 X mi_T_traceAt 1 [.ref 24, .int (Int32.ofInt (-1))] sh I J (.int (Int32.ofInt (0))) := by
  refine gw_enter (hx_ok hx) (by decide +kernel) (Nat.le_of_ble_eq_true rfl) (L := [(0, _), (1, _)]) rfl ?_
  refine lf_aload_n d_T_traceAt_0 rfl rfl rfl ?_
  refine gi_getr s_T_traceAt_1 (c_24 hT) rfl ?_
  refine lf_iload_n d_T_traceAt_4 rfl rfl ?_
  refine gw_callP s_T_traceAt_5 (m_numberAt hx (c_41 hT) hk (z := -1) (by omega)) (S := []) rfl rfl gcR_4 (by decide) (by decide +kernel) (Nat.le_of_ble_eq_true rfl) ?_
  refine gi_top (nAt_neg (by omega)) ?_
  refine gw_iret d_T_traceAt_8 rfl ?_
  exact ⟨rfl, rfl, rfl, rfl⟩
theorem u256_r {p : Prop} [Decidable p] : -2147483648 ≤ (if p then 256 else 0 : Int) ∧ (if p then 256 else 0 : Int) < 2147483648 := by split <;> omega
theorem u256_0 {p : Prop} [Decidable p] : (if p then 256 else 0 : Int) = 0 ↔ ¬ p := by
  by_cases q : p
  · rw [if_pos q]; exact ⟨fun e => absurd e (by decide), fun e => absurd q e⟩
  · rw [if_neg q]; exact ⟨fun _ => q, fun _ => rfl⟩
theorem t_can_l (hx : HX X L9 xs) {cc S9 w s ni no : Nat} {dt : Nat → Nat} {ot : Nat → Nat → Nat} (hT : clT sh cc S9) (hcc : cc = 2 ^ s) (hs7 : s ≤ 7) (hi9 : I 24 2 = ni) (hnis : ni ≤ s) (hfk : FK I J w s ni dt ot no) {n : Nat} (hV : clV sh n w) {x : Nat} (hx9 : x < 2 ^ (s - ni)) (hc6 : ∀ c, c < 2 ^ ni → c < 64) {r : Int} (hr : (r = 1 ∧ ∃ ch, ch < 2 ^ ni ∧ lb (J 15 11) (ch) = true ∧ unl2 J w s ot no (chc ni x ch) = true) ∨ (r = 0 ∧ ∀ ch, ch < 2 ^ ni → lb (J 15 11) (ch) = true → unl2 J w s ot no (chc ni x ch) = false)) (hret : P (some (.int (Int32.ofInt (r)))) (hp sh I J)) : ∀ d c : Nat, c + d = 2 ^ ni → (∀ ch, ch < c → lb (J 15 11) (ch) = true → unl2 J w s ot no (chc ni x ch) = false) → LXf TT cl6 X mi_T_canDiffer (40 + 2) (1000 + 200 * 2) D P PX kc ks 2 [(2, .int (Int32.ofInt ((c : Nat) : Int))), (0, .ref 24), (1, .int (Int32.ofInt ((x : Nat) : Int)))] [] (hp sh I J) := by
  have hn128 : 2 ^ ni ≤ 128 := pow2_7 (by omega)
  intro d
  induction d with
  | zero =>
    intro c hc hg
    have hr0 : r = 0 := by
      rcases hr with ⟨-, ch, h1, h2, h3⟩ | ⟨e, -⟩
      · rw [hg ch (by omega) h2] at h3; cases h3
      · exact e
    subst hr0
    refine lf_iload_n d_T_canDiffer_2 rfl rfl ?_
    refine lf_iconst d_T_canDiffer_3 (v := Int32.ofInt ((1 : Nat) : Int)) rfl ?_
    refine lf_aload_n d_T_canDiffer_4 rfl rfl rfl ?_
    refine gi_geti s_T_canDiffer_5 (c_24 hT) rfl ?_
    refine gi_top hi9 ?_
    refine gi_ishlN (a := 1) (s := ni) d_T_canDiffer_8 (by omega) ?_
    refine gi_top (show ((1 * 2 ^ ni : Nat) : Int) = ((2 ^ ni : Nat) : Int) from by rw [Nat.one_mul]) ?_
    refine gi_icmp_ge d_T_canDiffer_9 (tgt := 44) (by decide) (by omega) (fun hb9 => ?_) (fun hb9 => False.elim (by omega))
    refine lf_iconst d_T_canDiffer_44 (v := Int32.ofInt ((0 : Nat) : Int)) rfl ?_
    exact lf_ireturn d_T_canDiffer_45 rfl rfl hret
  | succ d ih =>
    intro c hc hg
    refine lf_iload_n d_T_canDiffer_2 rfl rfl ?_
    refine lf_iconst d_T_canDiffer_3 (v := Int32.ofInt ((1 : Nat) : Int)) rfl ?_
    refine lf_aload_n d_T_canDiffer_4 rfl rfl rfl ?_
    refine gi_geti s_T_canDiffer_5 (c_24 hT) rfl ?_
    refine gi_top hi9 ?_
    refine gi_ishlN (a := 1) (s := ni) d_T_canDiffer_8 (by omega) ?_
    refine gi_top (show ((1 * 2 ^ ni : Nat) : Int) = ((2 ^ ni : Nat) : Int) from by rw [Nat.one_mul]) ?_
    refine gi_icmp_ge d_T_canDiffer_9 (tgt := 44) (by decide) (by omega) (fun hb9 => False.elim (by omega)) (fun hb9 => ?_)
    have hc64 : c < 64 := hc6 c (by omega)
    refine lf_aload_n d_T_canDiffer_12 rfl rfl rfl ?_
    refine gi_getr s_T_canDiffer_13 (c_24 hT) rfl ?_
    refine lf_iload_n d_T_canDiffer_16 rfl rfl ?_
    refine gw_callP s_T_canDiffer_17 (v_areKeptInputs hx hV (c := c) hc64) (S := []) rfl rfl (gcR_2 (c_15 hV)) (by decide) (by decide +kernel) (Nat.le_of_ble_eq_true rfl) ?_
    refine gb_if_eq d_T_canDiffer_20 (tgt := 38) (by decide) (fun hb20 => ?_) (fun hb20 => ?_)
    · refine gi_iincN d_T_canDiffer_38 rfl (by decide +kernel) (L2 := [(2, _), (0, _), (1, _)]) rfl ?_
      refine lf_goto d_T_canDiffer_41 (tgt := 2) (by decide) ?_
      refine ih (c + 1) (by omega) (fun ch h1 h2 => ?_)
      rcases Nat.lt_or_ge ch c with q | q
      · exact hg ch q h2
      · obtain rfl : ch = c := by omega
        first
          | exact absurd h2 hb20
          | (have := u256_0.mp hb33
             cases h9 : unl2 J w s ot no (chc ni x ch) with
             | false => rfl
             | true => exact absurd h9 this)
    · refine lf_aload_n d_T_canDiffer_23 rfl rfl rfl ?_
      refine lf_iload_n d_T_canDiffer_24 rfl rfl ?_
      refine lf_iload_n d_T_canDiffer_25 rfl rfl ?_
      refine gw_callP s_T_canDiffer_26 (t_stepFrom hx hT hcc hs7 hi9 hnis hfk hx9 (ch := c) (by omega)) (S := []) rfl rfl (gcR_2 (c_24 hT)) (by decide) (by decide +kernel) (Nat.le_of_ble_eq_true rfl) ?_
      refine lf_sipush d_T_canDiffer_29 (v := Int32.ofInt ((256 : Nat) : Int)) (by decide +kernel) ?_
      refine gi_iandN (a := (fol J w s ni dt ot no (chc ni x c))) (b := 256) d_T_canDiffer_32 ?_
      refine gi_top (show ((fol J w s ni dt ot no (chc ni x c) &&& 256 : Nat) : Int) = (if unl2 J w s ot no (chc ni x c) = true then 256 else 0 : Int) from by rw [fol_u hs7]; split <;> rfl) ?_
      refine gi_if_eq d_T_canDiffer_33 (tgt := 38) (by decide) u256_r (fun hb33 => ?_) (fun hb33 => ?_)
      · refine gi_iincN d_T_canDiffer_38 rfl (by decide +kernel) (L2 := [(2, _), (0, _), (1, _)]) rfl ?_
        refine lf_goto d_T_canDiffer_41 (tgt := 2) (by decide) ?_
        refine ih (c + 1) (by omega) (fun ch h1 h2 => ?_)
        rcases Nat.lt_or_ge ch c with q | q
        · exact hg ch q h2
        · obtain rfl : ch = c := by omega
          first
            | exact absurd h2 hb20
            | (have := u256_0.mp hb33
               cases h9 : unl2 J w s ot no (chc ni x ch) with
               | false => rfl
               | true => exact absurd h9 this)
      · refine lf_iconst d_T_canDiffer_36 (v := Int32.ofInt ((1 : Nat) : Int)) rfl ?_
        have hu : unl2 J w s ot no (chc ni x c) = true := by
          cases h9 : unl2 J w s ot no (chc ni x c) with
          | true => rfl
          | false => exact absurd (u256_0.mpr (by rw [h9]; decide)) hb33
        have hr1 : r = 1 := by
          rcases hr with ⟨e, -⟩ | ⟨-, h⟩
          · exact e
          · rw [h c (by omega) hb20] at hu; cases hu
        subst hr1
        exact lf_ireturn d_T_canDiffer_37 rfl rfl hret
theorem t_canDiffer (hx : HX X L9 xs) {cc S9 w s ni no : Nat} {dt : Nat → Nat} {ot : Nat → Nat → Nat} (hT : clT sh cc S9) (hcc : cc = 2 ^ s) (hs7 : s ≤ 7) (hi9 : I 24 2 = ni) (hnis : ni ≤ s) (hfk : FK I J w s ni dt ot no) {n : Nat} (hV : clV sh n w) {x : Nat} (hx9 : x < 2 ^ (s - ni)) (hc6 : ∀ c, c < 2 ^ ni → c < 64) {r : Int} (hr : (r = 1 ∧ ∃ ch, ch < 2 ^ ni ∧ lb (J 15 11) (ch) = true ∧ unl2 J w s ot no (chc ni x ch) = true) ∨ (r = 0 ∧ ∀ ch, ch < 2 ^ ni → lb (J 15 11) (ch) = true → unl2 J w s ot no (chc ni x ch) = false))  : EVp TT cl6 X mi_T_canDiffer 2 [.ref 24, .int (Int32.ofInt ((x : Nat) : Int))] sh I J (.int (Int32.ofInt (r))) := by
  refine gw_enter (hx_ok hx) (by decide +kernel) (Nat.le_of_ble_eq_true rfl) (L := [(0, _), (1, _)]) rfl ?_
  refine lf_iconst d_T_canDiffer_0 (v := Int32.ofInt ((0 : Nat) : Int)) rfl ?_
  refine lf_istore_n d_T_canDiffer_1 rfl (by decide +kernel) (L2 := [(2, _), (0, _), (1, _)]) rfl ?_
  exact t_can_l hx hT hcc hs7 hi9 hnis hfk hV hx9 hc6 hr ⟨_, _, _, rfl, rfl, rfl, rfl, rfl⟩ (2 ^ ni) 0 (by omega) (fun ch h => absurd h (Nat.not_lt_zero ch))
theorem t_one_l (hx : HX X L9 xs) {cc S9 : Nat} (hT : clT sh cc S9) {n w s : Nat} (hV : clV sh n w) (hn2 : n ≤ 80) (hs : I 15 1 = s) (hw : I 15 2 = w) (hsw : (s ≤ 6 ∧ w = 1) ∨ (s = 7 ∧ w = 2)) {ni : Nat} (hi9 : I 24 2 = ni) (hnis : ni ≤ s) (hc6 : ∀ c, c < 2 ^ ni → c < 64) {k x : Nat} (hk : k < n) (hx9 : x < 2 ^ (s - ni)) {r : Int} (hr : (r = 1 ∧ ∀ ch, ch < 2 ^ ni → lb (J 15 11) (ch) = true → hbit J w s k (chc ni x ch) = true) ∨ (r = 0 ∧ ∃ ch, ch < 2 ^ ni ∧ lb (J 15 11) (ch) = true ∧ hbit J w s k (chc ni x ch) = false)) (hret : P (some (.int (Int32.ofInt (r)))) (hp sh I J)) : ∀ d c : Nat, c + d = 2 ^ ni → (∀ ch, ch < c → lb (J 15 11) (ch) = true → hbit J w s k (chc ni x ch) = true) → LXf TT cl6 X mi_T_isOneIn (40 + 3) (1000 + 200 * 3) D P PX kc ks 2 [(3, .int (Int32.ofInt ((c : Nat) : Int))), (0, .ref 24), (1, .int (Int32.ofInt ((k : Nat) : Int))), (2, .int (Int32.ofInt ((x : Nat) : Int)))] [] (hp sh I J) := by
  have hn128 : 2 ^ ni ≤ 128 := pow2_7 (by omega)
  intro d
  induction d with
  | zero =>
    intro c hc hg
    have hr1 : r = 1 := by
      rcases hr with ⟨e, -⟩ | ⟨-, ch, h1, h2, h3⟩
      · exact e
      · rw [hg ch (by omega) h2] at h3; cases h3
    subst hr1
    refine lf_iload_n d_T_isOneIn_2 rfl rfl ?_
    refine lf_iconst d_T_isOneIn_3 (v := Int32.ofInt ((1 : Nat) : Int)) rfl ?_
    refine lf_aload_n d_T_isOneIn_4 rfl rfl rfl ?_
    refine gi_geti s_T_isOneIn_5 (c_24 hT) rfl ?_
    refine gi_top hi9 ?_
    refine gi_ishlN (a := 1) (s := ni) d_T_isOneIn_8 (by omega) ?_
    refine gi_top (show ((1 * 2 ^ ni : Nat) : Int) = ((2 ^ ni : Nat) : Int) from by rw [Nat.one_mul]) ?_
    refine gi_icmp_ge d_T_isOneIn_9 (tgt := 50) (by decide) (by omega) (fun hb9 => ?_) (fun hb9 => False.elim (by omega))
    refine lf_iconst d_T_isOneIn_50 (v := Int32.ofInt ((1 : Nat) : Int)) rfl ?_
    exact lf_ireturn d_T_isOneIn_51 rfl rfl hret
  | succ d ih =>
    intro c hc hg
    refine lf_iload_n d_T_isOneIn_2 rfl rfl ?_
    refine lf_iconst d_T_isOneIn_3 (v := Int32.ofInt ((1 : Nat) : Int)) rfl ?_
    refine lf_aload_n d_T_isOneIn_4 rfl rfl rfl ?_
    refine gi_geti s_T_isOneIn_5 (c_24 hT) rfl ?_
    refine gi_top hi9 ?_
    refine gi_ishlN (a := 1) (s := ni) d_T_isOneIn_8 (by omega) ?_
    refine gi_top (show ((1 * 2 ^ ni : Nat) : Int) = ((2 ^ ni : Nat) : Int) from by rw [Nat.one_mul]) ?_
    refine gi_icmp_ge d_T_isOneIn_9 (tgt := 50) (by decide) (by omega) (fun hb9 => False.elim (by omega)) (fun hb9 => ?_)
    have hc64 : c < 64 := hc6 c (by omega)
    refine lf_aload_n d_T_isOneIn_12 rfl rfl rfl ?_
    refine gi_getr s_T_isOneIn_13 (c_24 hT) rfl ?_
    refine lf_iload_n d_T_isOneIn_16 rfl rfl ?_
    refine gw_callP s_T_isOneIn_17 (v_areKeptInputs hx hV (c := c) hc64) (S := []) rfl rfl (gcR_2 (c_15 hV)) (by decide) (by decide +kernel) (Nat.le_of_ble_eq_true rfl) ?_
    refine gb_if_eq d_T_isOneIn_20 (tgt := 44) (by decide) (fun hb20 => ?_) (fun hb20 => ?_)
    · refine gi_iincN d_T_isOneIn_44 rfl (by decide +kernel) (L2 := [(3, _), (0, _), (1, _), (2, _)]) rfl ?_
      refine lf_goto d_T_isOneIn_47 (tgt := 2) (by decide) ?_
      refine ih (c + 1) (by omega) (fun ch h1 h2 => ?_)
      rcases Nat.lt_or_ge ch c with q | q
      · exact hg ch q h2
      · obtain rfl : ch = c := by omega
        first
          | exact absurd h2 hb20
          | exact hb39
    · refine lf_aload_n d_T_isOneIn_23 rfl rfl rfl ?_
      refine gi_getr s_T_isOneIn_24 (c_24 hT) rfl ?_
      refine lf_iload_n d_T_isOneIn_27 rfl rfl ?_
      refine lf_iload_n d_T_isOneIn_28 rfl rfl ?_
      refine lf_aload_n d_T_isOneIn_29 rfl rfl rfl ?_
      refine gi_geti s_T_isOneIn_30 (c_24 hT) rfl ?_
      refine gi_top hi9 ?_
      refine gi_ishlN (a := x) (s := ni) d_T_isOneIn_33 (by omega) ?_
      refine lf_iload_n d_T_isOneIn_34 rfl rfl ?_
      refine gi_iorN (a := (x * 2 ^ ni)) (b := c) d_T_isOneIn_35 ?_
      refine gw_callP s_T_isOneIn_36 (v_bitAtChoice hx hV hs hsw hn2 hw hk) (S := []) rfl rfl (gcR_2 (c_15 hV)) (by decide) (by decide +kernel) (Nat.le_of_ble_eq_true rfl) ?_
      refine gb_if_ne d_T_isOneIn_39 (tgt := 44) (by decide) (fun hb39 => ?_) (fun hb39 => ?_)
      · refine gi_iincN d_T_isOneIn_44 rfl (by decide +kernel) (L2 := [(3, _), (0, _), (1, _), (2, _)]) rfl ?_
        refine lf_goto d_T_isOneIn_47 (tgt := 2) (by decide) ?_
        refine ih (c + 1) (by omega) (fun ch h1 h2 => ?_)
        rcases Nat.lt_or_ge ch c with q | q
        · exact hg ch q h2
        · obtain rfl : ch = c := by omega
          first
            | exact absurd h2 hb20
            | exact hb39
      · refine lf_iconst d_T_isOneIn_42 (v := Int32.ofInt ((0 : Nat) : Int)) rfl ?_
        have hu : hbit J w s k (chc ni x c) = false := by
          cases h9 : hbit J w s k (chc ni x c) with
          | false => rfl
          | true => exact absurd h9 hb39
        have hr0 : r = 0 := by
          rcases hr with ⟨-, h⟩ | ⟨e, -⟩
          · rw [h c (by omega) hb20] at hu; cases hu
          · exact e
        subst hr0
        exact lf_ireturn d_T_isOneIn_43 rfl rfl hret
theorem t_isOneIn (hx : HX X L9 xs) {cc S9 : Nat} (hT : clT sh cc S9) {n w s : Nat} (hV : clV sh n w) (hn2 : n ≤ 80) (hs : I 15 1 = s) (hw : I 15 2 = w) (hsw : (s ≤ 6 ∧ w = 1) ∨ (s = 7 ∧ w = 2)) {ni : Nat} (hi9 : I 24 2 = ni) (hnis : ni ≤ s) (hc6 : ∀ c, c < 2 ^ ni → c < 64) {k x : Nat} (hk : k < n) (hx9 : x < 2 ^ (s - ni)) {r : Int} (hr : (r = 1 ∧ ∀ ch, ch < 2 ^ ni → lb (J 15 11) (ch) = true → hbit J w s k (chc ni x ch) = true) ∨ (r = 0 ∧ ∃ ch, ch < 2 ^ ni ∧ lb (J 15 11) (ch) = true ∧ hbit J w s k (chc ni x ch) = false))  : EVp TT cl6 X mi_T_isOneIn 3 [.ref 24, .int (Int32.ofInt ((k : Nat) : Int)), .int (Int32.ofInt ((x : Nat) : Int))] sh I J (.int (Int32.ofInt (r))) := by
  refine gw_enter (hx_ok hx) (by decide +kernel) (Nat.le_of_ble_eq_true rfl) (L := [(0, _), (1, _), (2, _)]) rfl ?_
  refine lf_iconst d_T_isOneIn_0 (v := Int32.ofInt ((0 : Nat) : Int)) rfl ?_
  refine lf_istore_n d_T_isOneIn_1 rfl (by decide +kernel) (L2 := [(3, _), (0, _), (1, _), (2, _)]) rfl ?_
  exact t_one_l hx hT hV hn2 hs hw hsw hi9 hnis hc6 hk hx9 hr ⟨_, _, _, rfl, rfl, rfl, rfl, rfl⟩ (2 ^ ni) 0 (by omega) (fun ch h => absurd h (Nat.not_lt_zero ch))
def itS (J : mJ) (w s ni : Nat) (fi dt : Nat → Nat) (ch : Nat) : Nat → Nat | 0 => fst fi s ni | k + 1 => nxt J w s ni dt (chc ni (itS J w s ni fi dt ch k) ch)
theorem t_ob_l (hx : HX X L9 xs) (hN : clN sh) {cc S9 : Nat} (hT : clT sh cc S9) {n w s : Nat} (hV : clV sh n w) (hn2 : n ≤ 80) (hs : I 15 1 = s) (hw : I 15 2 = w) (hsw : (s ≤ 6 ∧ w = 1) ∨ (s = 7 ∧ w = 2)) {ni no : Nat} {fi dt : Nat → Nat} {ot : Nat → Nat → Nat} (hnt : NT I n s ni no fi dt ot) (hi9 : I 24 2 = ni) {t m ch : Nat} (hm : m ≤ 30) (k36 : LXf TT cl6 X mi_T_outputsBehind (40 + 4) (1000 + 200 * 4) D P PX kc ks 36 [(5, .int (Int32.ofInt ((m : Nat) : Int))), (4, .int (Int32.ofInt ((itS J w s ni fi dt ch (m) : Nat) : Int))), (0, .ref 24), (1, .int (Int32.ofInt ((t : Nat) : Int))), (2, .int (Int32.ofInt ((m : Nat) : Int))), (3, .int (Int32.ofInt ((ch : Nat) : Int)))] [] (hp sh I J)) : ∀ d k : Nat, k + d = m → LXf TT cl6 X mi_T_outputsBehind (40 + 4) (1000 + 200 * 4) D P PX kc ks 9 [(5, .int (Int32.ofInt ((k : Nat) : Int))), (4, .int (Int32.ofInt ((itS J w s ni fi dt ch (k) : Nat) : Int))), (0, .ref 24), (1, .int (Int32.ofInt ((t : Nat) : Int))), (2, .int (Int32.ofInt ((m : Nat) : Int))), (3, .int (Int32.ofInt ((ch : Nat) : Int)))] [] (hp sh I J) := by
  have hnis := hnt.2.1
  intro d
  induction d with
  | zero =>
    intro k hk
    obtain rfl : k = m := by omega
    refine lf_iload d_T_outputsBehind_9 rfl ?_
    refine lf_iload_n d_T_outputsBehind_11 rfl rfl ?_
    refine gi_icmp_ge d_T_outputsBehind_12 (tgt := 36) (by decide) (by omega) (fun hb12 => ?_) (fun hb12 => False.elim (by omega))
    exact k36
  | succ d ih =>
    intro k hk
    refine lf_iload d_T_outputsBehind_9 rfl ?_
    refine lf_iload_n d_T_outputsBehind_11 rfl rfl ?_
    refine gi_icmp_ge d_T_outputsBehind_12 (tgt := 36) (by decide) (by omega) (fun hb12 => False.elim (by omega)) (fun hb12 => ?_)
    refine lf_aload_n d_T_outputsBehind_15 rfl rfl rfl ?_
    refine lf_iload d_T_outputsBehind_16 rfl ?_
    refine lf_aload_n d_T_outputsBehind_18 rfl rfl rfl ?_
    refine gi_geti s_T_outputsBehind_19 (c_24 hT) rfl ?_
    refine gi_top hi9 ?_
    refine gi_ishlN (a := (itS J w s ni fi dt ch k)) (s := ni) d_T_outputsBehind_22 (by omega) ?_
    refine lf_iload_n d_T_outputsBehind_23 rfl rfl ?_
    refine gi_iorN (a := ((itS J w s ni fi dt ch k) * 2 ^ ni)) (b := ch) d_T_outputsBehind_24 ?_
    refine gw_callP s_T_outputsBehind_25 (t_stateBehind hx hN hT hV hn2 hs hw hsw hnt hi9 (c := itS J w s ni fi dt ch k * 2 ^ ni ||| ch)) (S := []) rfl rfl (gcR_2 (c_24 hT)) (by decide) (by decide +kernel) (Nat.le_of_ble_eq_true rfl) ?_
    refine lf_istore d_T_outputsBehind_28 (by decide +kernel) (L2 := [(4, _), (5, _), (0, _), (1, _), (2, _), (3, _)]) rfl ?_
    refine gi_iincN d_T_outputsBehind_30 rfl (by decide +kernel) (L2 := [(5, _), (4, _), (0, _), (1, _), (2, _), (3, _)]) rfl ?_
    refine lf_goto d_T_outputsBehind_33 (tgt := 9) (by decide) ?_
    exact ih (k + 1) (by omega)
theorem t_outputsBehind (hx : HX X L9 xs) (hN : clN sh) {cc S9 : Nat} (hT : clT sh cc S9) {n w s : Nat} (hV : clV sh n w) (hn2 : n ≤ 80) (hs : I 15 1 = s) (hw : I 15 2 = w) (hsw : (s ≤ 6 ∧ w = 1) ∨ (s = 7 ∧ w = 2)) {ni no : Nat} {fi dt : Nat → Nat} {ot : Nat → Nat → Nat} (hnt : NT I n s ni no fi dt ot) (hi9 : I 24 2 = ni) {t m ch : Nat} (hm : m ≤ 30) (ht : t < 2) : EVp TT cl6 X mi_T_outputsBehind 4 [.ref 24, .int (Int32.ofInt ((t : Nat) : Int)), .int (Int32.ofInt ((m : Nat) : Int)), .int (Int32.ofInt ((ch : Nat) : Int))] sh I J (.int (Int32.ofInt ((out J w s ot no t (chc ni (itS J w s ni fi dt ch m) ch) : Nat) : Int))) := by
  have hnis := hnt.2.1
  refine gw_enter (hx_ok hx) (by decide +kernel) (Nat.le_of_ble_eq_true rfl) (L := [(0, _), (1, _), (2, _), (3, _)]) rfl ?_
  refine lf_aload_n d_T_outputsBehind_0 rfl rfl rfl ?_
  refine gw_callP s_T_outputsBehind_1 (t_firstState hx hN hT hV hn2 hs hw hsw hnt hi9) (S := []) rfl rfl (gcR_2 (c_24 hT)) (by decide) (by decide +kernel) (Nat.le_of_ble_eq_true rfl) ?_
  refine lf_istore d_T_outputsBehind_4 (by decide +kernel) (L2 := [(4, _), (0, _), (1, _), (2, _), (3, _)]) rfl ?_
  refine lf_iconst d_T_outputsBehind_6 (v := Int32.ofInt ((0 : Nat) : Int)) rfl ?_
  refine lf_istore d_T_outputsBehind_7 (by decide +kernel) (L2 := [(5, _), (4, _), (0, _), (1, _), (2, _), (3, _)]) rfl ?_
  refine t_ob_l hx hN hT hV hn2 hs hw hsw hnt hi9 (ch := ch) hm ?_ m 0 (by omega)
  refine lf_aload_n d_T_outputsBehind_36 rfl rfl rfl ?_
  refine lf_iload_n d_T_outputsBehind_37 rfl rfl ?_
  refine lf_iload d_T_outputsBehind_38 rfl ?_
  refine lf_aload_n d_T_outputsBehind_40 rfl rfl rfl ?_
  refine gi_geti s_T_outputsBehind_41 (c_24 hT) rfl ?_
  refine gi_top hi9 ?_
  refine gi_ishlN (a := (itS J w s ni fi dt ch m)) (s := ni) d_T_outputsBehind_44 (by omega) ?_
  refine lf_iload_n d_T_outputsBehind_45 rfl rfl ?_
  refine gi_iorN (a := ((itS J w s ni fi dt ch m) * 2 ^ ni)) (b := ch) d_T_outputsBehind_46 ?_
  refine gw_callP s_T_outputsBehind_47 (t_outputsAt hx hN hT hV hn2 hs hw hsw hnt hi9 (c := itS J w s ni fi dt ch m * 2 ^ ni ||| ch) ht) (S := []) rfl rfl (gcR_2 (c_24 hT)) (by decide) (by decide +kernel) (Nat.le_of_ble_eq_true rfl) ?_
  refine gw_iret d_T_outputsBehind_50 rfl ?_
  exact ⟨rfl, rfl, rfl, rfl⟩
end TT10
