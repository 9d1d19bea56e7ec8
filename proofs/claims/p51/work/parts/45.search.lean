section TT11
variable {X : XT} {L9 : Nat} {xs : Nat → Int32} {sh : sM} {I : mI} {J : mJ}

variable {D : mF} {P : Option Value → mF → Prop} {PX : String → mF → Prop} {kc ks : Nat}

def TRC (I : mI) (b : BST) (x ch : Nat) : Prop := I 41 (bD b x) = ch ∧ ∀ i, i < bD b x → I 41 (bD b x - 1 - i) = ((bB b (it (bF b) i x) : Nat) : Int)
/-- the class's arrays are those of the search -/
def CM (I : mI) (b : BST) (S : Nat) : Prop := I 24 14 = bCnt b ∧ (∀ j, j < bCnt b → I 37 j = bQ b j) ∧ (∀ y, y < S → bS b y = true → I 38 y = bF b y ∧ I 39 y = bB b y ∧ I 40 y = bD b y) ∧ (∀ y, y < S → bS b y = false → I 38 y = -1) ∧ (bX b = none → I 24 15 = -1) ∧ (∀ x ch, bX b = some (x, ch) → I 24 15 = bD b x ∧ TRC I b x ch)
theorem t_meet (hx : HX X L9 xs) {cc S9 : Nat} (hT : clT sh cc S9) (hS9 : S9 ≤ 128) {p y x ch dep : Nat} (hp : I 24 14 = p) (hp2 : p < S9) (hy : y < S9) : EVv TT cl6 X mi_T_meet 1 [.ref 24, .int (Int32.ofInt ((y : Nat) : Int)), .int (Int32.ofInt ((x : Nat) : Int)), .int (Int32.ofInt ((ch : Nat) : Int)), .int (Int32.ofInt ((dep : Nat) : Int))] sh I J (fun I1 J1 => I1 = ipt (ipt (ipt (ipt (ipt I 37 p y) 38 y x) 39 y ch) 40 y dep) 24 14 ((p + 1 : Nat) : Int) ∧ J1 = J) := by
  refine gw_enter (hx_ok hx) (by decide +kernel) (Nat.le_of_ble_eq_true rfl) (L := [(0, _), (1, _), (2, _), (3, _), (4, _)]) rfl ?_
  refine lf_aload_n d_T_meet_0 rfl rfl rfl ?_
  refine gi_getr s_T_meet_1 (c_24 hT) rfl ?_
  refine lf_aload_n d_T_meet_4 rfl rfl rfl ?_
  refine gi_geti s_T_meet_5 (c_24 hT) rfl ?_
  refine gi_top hp ?_
  refine lf_iload_n d_T_meet_8 rfl rfl ?_
  refine gw_callV s_T_meet_9 (m_putNumberN hx (c_37 hT) (by omega)) (S := []) rfl rfl gcR_4 (by decide) (by decide +kernel) (Nat.le_of_ble_eq_true rfl) (fun I J w9 => ?_)
  obtain ⟨rfl, rfl⟩ := w9
  refine lf_aload_n d_T_meet_12 rfl rfl rfl ?_
  refine gi_getr s_T_meet_13 (c_24 hT) rfl ?_
  refine lf_iload_n d_T_meet_16 rfl rfl ?_
  refine lf_iload_n d_T_meet_17 rfl rfl ?_
  refine gw_callV s_T_meet_18 (m_putNumberN hx (c_38 hT) (by omega)) (S := []) rfl rfl gcR_4 (by decide) (by decide +kernel) (Nat.le_of_ble_eq_true rfl) (fun I J w18 => ?_)
  obtain ⟨rfl, rfl⟩ := w18
  refine lf_aload_n d_T_meet_21 rfl rfl rfl ?_
  refine gi_getr s_T_meet_22 (c_24 hT) rfl ?_
  refine lf_iload_n d_T_meet_25 rfl rfl ?_
  refine lf_iload_n d_T_meet_26 rfl rfl ?_
  refine gw_callV s_T_meet_27 (m_putNumberN hx (c_39 hT) (by omega)) (S := []) rfl rfl gcR_4 (by decide) (by decide +kernel) (Nat.le_of_ble_eq_true rfl) (fun I J w27 => ?_)
  obtain ⟨rfl, rfl⟩ := w27
  refine lf_aload_n d_T_meet_30 rfl rfl rfl ?_
  refine gi_getr s_T_meet_31 (c_24 hT) rfl ?_
  refine lf_iload_n d_T_meet_34 rfl rfl ?_
  refine lf_iload d_T_meet_35 rfl ?_
  refine gw_callV s_T_meet_37 (m_putNumberN hx (c_40 hT) (by omega)) (S := []) rfl rfl gcR_4 (by decide) (by decide +kernel) (Nat.le_of_ble_eq_true rfl) (fun I J w37 => ?_)
  obtain ⟨rfl, rfl⟩ := w37
  refine lf_aload_n d_T_meet_40 rfl rfl rfl ?_
  refine lf_dup d_T_meet_41 rfl ?_
  refine gi_geti s_T_meet_42 (c_24 hT) rfl ?_
  refine gi_top (show ipt (ipt (ipt (ipt I 37 p y) 38 y x) 39 y ch) 40 y dep 24 14 = (p : Int) from hp) ?_
  refine lf_iconst d_T_meet_45 (v := Int32.ofInt ((1 : Nat) : Int)) rfl ?_
  refine gi_iaddN (a := p) (b := 1) d_T_meet_46 ?_
  refine gi_puti s_T_meet_47 (c_24 hT) rfl ?_
  refine gw_ret d_T_meet_50 rfl ?_
  exact ⟨rfl, rfl, rfl, rfl⟩
theorem t_wt_l (hx : HX X L9 xs) {cc S9 : Nat} (hT : clT sh cc S9) (hS9 : S9 ≤ 128) {kp : Nat → Bool} {nx : Nat → Nat → Nat} {ul : Nat → Nat → Bool} {m f : Nat} {b : BST} (hb : BI kp nx ul m f S9 b) (hcm : ∀ y, y < S9 → bS b y = true → I 38 y = bF b y ∧ I 39 y = bB b y ∧ I 40 y = bD b y) {x ch : Nat} (hxs : bS b x = true) (k59 : ∀ I1 : mI, (∀ a, ¬ a = 41 → I1 a = I a) → TRC I1 b x ch → LXf TT cl6 X mi_T_writeTrace (40 + 1) (1000 + 200 * 1) D P PX kc ks 59 [(0, .ref 24)] [] (hp sh I1 J)) : ∀ (c : Nat) (I1 : mI), c ≤ bD b x → (∀ a, ¬ a = 41 → I1 a = I a) → I1 41 (bD b x) = ch → (∀ i, i < bD b x - c → I1 41 (bD b x - 1 - i) = ((bB b (it (bF b) i x) : Nat) : Int)) → LXf TT cl6 X mi_T_writeTrace (40 + 1) (1000 + 200 * 1) D P PX kc ks 22 [(4, .int (Int32.ofInt (((c : Nat) : Int) - 1))), (3, .int (Int32.ofInt ((it (bF b) (bD b x - (c)) x : Nat) : Int))), (0, .ref 24), (1, .int (Int32.ofInt ((x : Nat) : Int))), (2, .int (Int32.ofInt ((ch : Nat) : Int)))] [] (hp sh I1 J) := by
  have hd9 := (hb.2.2.2.2.2.1 x hxs).1
  have hc9 := BI_le hb
  intro c
  induction c with
  | zero =>
    intro I1 hc he h1 hg
    refine lf_iload d_T_writeTrace_22 rfl ?_
    refine gi_if_lt d_T_writeTrace_24 (tgt := 59) (by decide) (by omega) (fun hb24 => ?_) (fun hb24 => False.elim (by omega))
    refine lf_sub [2] rfl ?_
    exact k59 I1 he ⟨h1, fun i hi => hg i hi⟩
  | succ c ih =>
    intro I1 hc he h1 hg
    have hst := it_sn hb hxs (bD b x - (c + 1))
    have hlt := hb.2.1 _ hst
    have h := hcm _ hlt hst
    have e38 : I1 38 (it (bF b) (bD b x - (c + 1)) x) = ((bF b (it (bF b) (bD b x - (c + 1)) x) : Nat) : Int) := by rw [he 38 (by decide)]; exact h.1
    have e39 : I1 39 (it (bF b) (bD b x - (c + 1)) x) = ((bB b (it (bF b) (bD b x - (c + 1)) x) : Nat) : Int) := by rw [he 39 (by decide)]; exact h.2.1
    refine lf_iload d_T_writeTrace_22 rfl ?_
    refine gi_if_lt d_T_writeTrace_24 (tgt := 59) (by decide) (by omega) (fun hb24 => False.elim (by omega)) (fun hb24 => ?_)
    refine lf_aload_n d_T_writeTrace_27 rfl rfl rfl ?_
    refine gi_getr s_T_writeTrace_28 (c_24 hT) rfl ?_
    refine lf_iload d_T_writeTrace_31 rfl ?_
    refine gi_top (show ((c + 1 : Nat) : Int) - 1 = ((c : Nat) : Int) from by omega) ?_
    refine lf_aload_n d_T_writeTrace_33 rfl rfl rfl ?_
    refine gi_getr s_T_writeTrace_34 (c_24 hT) rfl ?_
    refine lf_iload_n d_T_writeTrace_37 rfl rfl ?_
    refine gw_callP s_T_writeTrace_38 (m_numberAtN hx (c_39 hT) (by omega)) (S := [_, _]) rfl rfl gcR_4 (by decide) (by decide +kernel) (Nat.le_of_ble_eq_true rfl) ?_
    refine gi_top e39 ?_
    refine gw_callV s_T_writeTrace_41 (m_putNumberN hx (c_41 hT) (by omega)) (S := []) rfl rfl gcR_4 (by decide) (by decide +kernel) (Nat.le_of_ble_eq_true rfl) (fun I J w41 => ?_)
    obtain ⟨rfl, rfl⟩ := w41
    refine lf_aload_n d_T_writeTrace_44 rfl rfl rfl ?_
    refine gi_getr s_T_writeTrace_45 (c_24 hT) rfl ?_
    refine lf_iload_n d_T_writeTrace_48 rfl rfl ?_
    refine gw_callP s_T_writeTrace_49 (m_numberAtN hx (c_38 hT) (by omega)) (S := []) rfl rfl gcR_4 (by decide) (by decide +kernel) (Nat.le_of_ble_eq_true rfl) ?_
    refine gi_top (show ipt I1 41 c _ 38 _ = _ from e38) ?_
    refine lf_istore_n d_T_writeTrace_52 rfl (by decide +kernel) (L2 := [(3, _), (4, _), (0, _), (1, _), (2, _)]) rfl ?_
    refine gi_iinc d_T_writeTrace_53 rfl (by decide +kernel) (L2 := [(4, _), (3, _), (0, _), (1, _), (2, _)]) rfl ?_
    refine lf_goto d_T_writeTrace_56 (tgt := 22) (by decide) ?_
    have e1 : bD b x - c = (bD b x - (c + 1)) + 1 := by omega
    have e2 : ((c + 1 : Nat) : Int) - 1 + -1 = (c : Int) - 1 := by omega
    have e3 : it (bF b) (bD b x - c) x = bF b (it (bF b) (bD b x - (c + 1)) x) := by rw [e1, it_s]
    rw [e2, ← e3]
    refine ih _ (by omega) (fun a ha => by rw [ipt_o ha]; exact he a ha) ?_ (fun i hi => ?_)
    · rw [ipt_s, if_neg (by omega)]; exact h1
    · rw [ipt_s]
      by_cases q : bD b x - 1 - i = c
      · rw [if_pos q]
        have : i = bD b x - (c + 1) := by omega
        rw [this]
      · rw [if_neg q]; exact hg i (by omega)
theorem t_writeTrace (hx : HX X L9 xs) {cc S9 : Nat} (hT : clT sh cc S9) (hS9 : S9 ≤ 128) {kp : Nat → Bool} {nx : Nat → Nat → Nat} {ul : Nat → Nat → Bool} {m f : Nat} {b : BST} (hb : BI kp nx ul m f S9 b) (hcm : ∀ y, y < S9 → bS b y = true → I 38 y = bF b y ∧ I 39 y = bB b y ∧ I 40 y = bD b y) {x ch : Nat} (hxs : bS b x = true) (hd : I 24 15 = bD b x) : EVv TT cl6 X mi_T_writeTrace 1 [.ref 24, .int (Int32.ofInt ((x : Nat) : Int)), .int (Int32.ofInt ((ch : Nat) : Int))] sh I J (fun I1 J1 => (∀ a, ¬ a = 41 → I1 a = I a) ∧ TRC I1 b x ch ∧ J1 = J) := by
  have hd9 := (hb.2.2.2.2.2.1 x hxs).1
  have hc9 := BI_le hb
  refine gw_enter (hx_ok hx) (by decide +kernel) (Nat.le_of_ble_eq_true rfl) (L := [(0, _), (1, _), (2, _)]) rfl ?_
  refine lf_iload_n d_T_writeTrace_0 rfl rfl ?_
  refine lf_istore_n d_T_writeTrace_1 rfl (by decide +kernel) (L2 := [(3, _), (0, _), (1, _), (2, _)]) rfl ?_
  refine lf_aload_n d_T_writeTrace_2 rfl rfl rfl ?_
  refine gi_getr s_T_writeTrace_3 (c_24 hT) rfl ?_
  refine lf_aload_n d_T_writeTrace_6 rfl rfl rfl ?_
  refine gi_geti s_T_writeTrace_7 (c_24 hT) rfl ?_
  refine gi_top hd ?_
  refine lf_iload_n d_T_writeTrace_10 rfl rfl ?_
  refine gw_callV s_T_writeTrace_11 (m_putNumberN hx (c_41 hT) (by omega)) (S := []) rfl rfl gcR_4 (by decide) (by decide +kernel) (Nat.le_of_ble_eq_true rfl) (fun I J w11 => ?_)
  obtain ⟨rfl, rfl⟩ := w11
  refine lf_aload_n d_T_writeTrace_14 rfl rfl rfl ?_
  refine gi_geti s_T_writeTrace_15 (c_24 hT) rfl ?_
  refine gi_top (show ipt I 41 (bD b x) ch 24 15 = ((bD b x : Nat) : Int) from hd) ?_
  refine lf_iconst d_T_writeTrace_18 (v := Int32.ofInt ((1 : Nat) : Int)) rfl ?_
  refine gi_isub d_T_writeTrace_19 ?_
  refine lf_istore d_T_writeTrace_20 (by decide +kernel) (L2 := [(4, _), (3, _), (0, _), (1, _), (2, _)]) rfl ?_
  refine lf_eqL (L1 := [(4, .int (Int32.ofInt (((bD b x : Nat) : Int) - 1))), (3, .int (Int32.ofInt ((it (bF b) (bD b x - (bD b x)) x : Nat) : Int))), (0, .ref 24), (1, .int (Int32.ofInt ((x : Nat) : Int))), (2, .int (Int32.ofInt ((ch : Nat) : Int)))]) (by rw [Nat.sub_self]; rfl) ?_
  refine t_wt_l hx hT hS9 hb hcm hxs (fun I1 he ht => ?_) (bD b x) _ (Nat.le_refl _) (fun a ha => ipt_o ha) ipt_e (fun i hi => by omega)
  refine gw_ret d_T_writeTrace_59 rfl ?_
  exact ⟨rfl, rfl, he, ht, rfl⟩
theorem CM_meet {b : BST} {S x ch : Nat} {kp : Nat → Bool} {nx : Nat → Nat → Nat} {ul : Nat → Nat → Bool} {m f y : Nat} (hb : BI kp nx ul m f S b) (h : CM I b S) (hx9 : bS b x = true) (hs : bS b y = false) (hy : y < S) :
    CM (ipt (ipt (ipt (ipt (ipt I 37 (bCnt b) y) 38 y x) 39 y ch) 40 y ((bD b x + 1 : Nat) : Int)) 24 14 ((bCnt b + 1 : Nat) : Int)) (bMeet b y x ch (bD b x + 1)) S := by
  obtain ⟨h1, h2, h3, h4, h5, h6⟩ := h
  have keep : ∀ z, bS b z = true → ¬ z = y := fun z hz e => by rw [e, hs] at hz; cases hz
  refine ⟨ipt_e, fun j hj => ?_, fun z hz hz2 => ?_, fun z hz hz2 => ?_, fun e => ?_, fun x1 c1 e => ?_⟩
  · show ipt I 37 (bCnt b) y 37 j = ((upN (bQ b) (bCnt b) y j : Nat) : Int)
    rw [ipt_s]
    by_cases q : j = bCnt b
    · rw [if_pos q, q, upN_s]
    · rw [if_neg q, upN_o q]
      exact h2 j (by have : j < bCnt b + 1 := hj; omega)
  · show ipt (ipt I 37 (bCnt b) y) 38 y x 38 z = ((upN (bF b) y x z : Nat) : Int) ∧ ipt (ipt (ipt I 37 (bCnt b) y) 38 y x) 39 y ch 39 z = ((upN (bB b) y ch z : Nat) : Int) ∧ ipt (ipt (ipt (ipt I 37 (bCnt b) y) 38 y x) 39 y ch) 40 y ((bD b x + 1 : Nat) : Int) 40 z = ((upN (bD b) y (bD b x + 1) z : Nat) : Int)
    rw [ipt_s, ipt_s, ipt_s]
    by_cases q : z = y
    · rw [if_pos q, if_pos q, if_pos q, q, upN_s, upN_s, upN_s]; exact ⟨rfl, rfl, rfl⟩
    · have hz3 : upN (bS b) y true z = true := hz2
      rw [upN_o q] at hz3
      rw [if_neg q, if_neg q, if_neg q, upN_o q, upN_o q, upN_o q]
      exact h3 z hz hz3
  · have hz3 : upN (bS b) y true z = false := hz2
    have q : ¬ z = y := fun e => by rw [e, upN_s] at hz3; cases hz3
    rw [upN_o q] at hz3
    show ipt (ipt I 37 (bCnt b) y) 38 y x 38 z = -1
    rw [ipt_s, if_neg q]
    exact h4 z hz hz3
  · exact h5 e
  · have g := h6 x1 c1 e
    have gx := (hb.2.2.2.2.2.2 x1 c1 e).1
    refine ⟨?_, ?_, fun i hi => ?_⟩
    · show I 24 15 = ((upN (bD b) y (bD b x + 1) x1 : Nat) : Int)
      rw [upN_o (keep x1 gx)]; exact g.1
    · show I 41 (upN (bD b) y (bD b x + 1) x1) = c1
      rw [upN_o (keep x1 gx)]; exact g.2.1
    · have hi2 : i < upN (bD b) y (bD b x + 1) x1 := hi
      rw [upN_o (keep x1 gx)] at hi2
      have e9 : ∀ n, it (upN (bF b) y x) n x1 = it (bF b) n x1 := by
        intro n
        induction n with
        | zero => rfl
        | succ n ih => rw [it_s, it_s, ih, upN_o (keep _ (it_sn hb gx n))]
      show I 41 (upN (bD b) y (bD b x + 1) x1 - 1 - i) = ((upN (bB b) y ch (it (upN (bF b) y x) i x1) : Nat) : Int)
      rw [upN_o (keep x1 gx), e9, upN_o (keep _ (it_sn hb gx i))]
      exact g.2.2 i hi2
end TT11
