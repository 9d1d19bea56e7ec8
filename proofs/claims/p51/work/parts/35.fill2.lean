section VT3
variable {X : XT} {L9 : Nat} {xs : Nat → Int32} {sh : sM} {I : mI} {J : mJ}

variable {D : mF} {P : Option Value → mF → Prop} {PX : String → mF → Prop} {kc ks : Nat}

theorem m_bitCount (hx : HX X L9 xs) {x : Int64} : EVp TT cl6 X mi_L_bitCount 0 [.long x] sh I J (.int (Int32.ofInt ((cb (lb x) 64 : Nat) : Int))) := by
  refine gw_enter (hx_ok hx) (by decide +kernel) (Nat.le_of_ble_eq_true rfl) (L := [(0, _)]) rfl ?_
  refine lf_lload_n d_L_bitCount_0 rfl rfl ?_
  refine lf_lload_n d_L_bitCount_1 rfl rfl ?_
  refine lf_iconst d_L_bitCount_2 (v := Int32.ofInt ((1 : Nat) : Int)) rfl ?_
  refine lf_lushr d_L_bitCount_3 ?_
  refine gi_pushl s_L_bitCount_4 ?_
  refine lf_land d_L_bitCount_7 ?_
  refine lf_lsub d_L_bitCount_8 ?_
  refine lf_lstore_n d_L_bitCount_9 rfl (by decide +kernel) (L2 := [(0, _)]) rfl ?_
  refine lf_lload_n d_L_bitCount_10 rfl rfl ?_
  refine gi_pushl s_L_bitCount_11 ?_
  refine lf_land d_L_bitCount_14 ?_
  refine lf_lload_n d_L_bitCount_15 rfl rfl ?_
  refine lf_iconst d_L_bitCount_16 (v := Int32.ofInt ((2 : Nat) : Int)) rfl ?_
  refine lf_lushr d_L_bitCount_17 ?_
  refine gi_pushl s_L_bitCount_18 ?_
  refine lf_land d_L_bitCount_21 ?_
  refine lf_ladd d_L_bitCount_22 ?_
  refine lf_lstore_n d_L_bitCount_23 rfl (by decide +kernel) (L2 := [(0, _)]) rfl ?_
  refine lf_lload_n d_L_bitCount_24 rfl rfl ?_
  refine lf_lload_n d_L_bitCount_25 rfl rfl ?_
  refine lf_iconst d_L_bitCount_26 (v := Int32.ofInt ((4 : Nat) : Int)) rfl ?_
  refine lf_lushr d_L_bitCount_27 ?_
  refine lf_ladd d_L_bitCount_28 ?_
  refine gi_pushl s_L_bitCount_29 ?_
  refine lf_land d_L_bitCount_32 ?_
  refine lf_lstore_n d_L_bitCount_33 rfl (by decide +kernel) (L2 := [(0, _)]) rfl ?_
  refine lf_lload_n d_L_bitCount_34 rfl rfl ?_
  refine lf_lload_n d_L_bitCount_35 rfl rfl ?_
  refine lf_bipush d_L_bitCount_36 (v := Int32.ofInt ((8 : Nat) : Int)) (by decide +kernel) ?_
  refine lf_lushr d_L_bitCount_38 ?_
  refine lf_ladd d_L_bitCount_39 ?_
  refine lf_lstore_n d_L_bitCount_40 rfl (by decide +kernel) (L2 := [(0, _)]) rfl ?_
  refine lf_lload_n d_L_bitCount_41 rfl rfl ?_
  refine lf_lload_n d_L_bitCount_42 rfl rfl ?_
  refine lf_bipush d_L_bitCount_43 (v := Int32.ofInt ((16 : Nat) : Int)) (by decide +kernel) ?_
  refine lf_lushr d_L_bitCount_45 ?_
  refine lf_ladd d_L_bitCount_46 ?_
  refine lf_lstore_n d_L_bitCount_47 rfl (by decide +kernel) (L2 := [(0, _)]) rfl ?_
  refine lf_lload_n d_L_bitCount_48 rfl rfl ?_
  refine lf_lload_n d_L_bitCount_49 rfl rfl ?_
  refine lf_bipush d_L_bitCount_50 (v := Int32.ofInt ((32 : Nat) : Int)) (by decide +kernel) ?_
  refine lf_lushr d_L_bitCount_52 ?_
  refine lf_ladd d_L_bitCount_53 ?_
  refine lf_lstore_n d_L_bitCount_54 rfl (by decide +kernel) (L2 := [(0, _)]) rfl ?_
  refine lf_lload_n d_L_bitCount_55 rfl rfl ?_
  refine lf_l2i d_L_bitCount_56 ?_
  refine lf_bipush d_L_bitCount_57 (v := Int32.ofInt ((127 : Nat) : Int)) (by decide +kernel) ?_
  refine lf_iand d_L_bitCount_59 ?_
  refine gi_topX (bcI_eq x) ?_
  refine gw_iret d_L_bitCount_60 rfl ?_
  exact ⟨rfl, rfl, rfl, rfl⟩
theorem m_lowestBit (hx : HX X L9 xs) {x : Int64} : EVp TT cl6 X mi_M_lowestBit 1 [.long x] sh I J (.int (Int32.ofInt ((cb (lb ((x &&& -x) - Int64.ofNat ((1 : Fin 2) : Nat))) 64 : Nat) : Int))) := by
  refine gw_enter (hx_ok hx) (by decide +kernel) (Nat.le_of_ble_eq_true rfl) (L := [(0, _)]) rfl ?_
  refine lf_lload_n d_M_lowestBit_0 rfl rfl ?_
  refine lf_lload_n d_M_lowestBit_1 rfl rfl ?_
  refine lf_lneg d_M_lowestBit_2 ?_
  refine lf_land d_M_lowestBit_3 ?_
  refine lf_lconst d_M_lowestBit_4 rfl ?_
  refine lf_lsub d_M_lowestBit_5 ?_
  refine gw_callP s_M_lowestBit_6 (m_bitCount hx) (S := []) rfl rfl gcR_1 (by decide) (by decide +kernel) (Nat.le_of_ble_eq_true rfl) ?_
  refine gw_iret d_M_lowestBit_9 rfl ?_
  exact ⟨rfl, rfl, rfl, rfl⟩
/-- the facts of a closed net: n lines, the first s of them sources, pins of the others -/
def NF (I : mI) (n s : Nat) (pa pb : Nat → Nat) : Prop :=
  I 1 11 = n ∧ n ≤ 80 ∧ s ≤ 7 ∧ s ≤ n ∧ NR I ∧ I 1 12 + I 11 0 + I 11 1 = (s : Int) ∧ (∀ j, j < s → I 12 j = j) ∧ (∀ j, j < s → I 3 j = 105 ∨ I 3 j = 99) ∧
  (∀ j, s ≤ j → j < n → (I 3 j = 97 ∨ I 3 j = 110 ∨ I 3 j = 111 ∨ I 3 j = 114 ∨ I 3 j = 120 ∨ I 3 j = 118 ∨ I 3 j = 98) ∧ I 5 j = pa j ∧ I 6 j = pb j ∧ pa j < j ∧ pb j < j)
/-- the scalars of the values -/
def VF (I : mI) (J : mJ) (s w : Nat) : Prop := I 15 1 = s ∧ I 15 2 = w ∧ ((s ≤ 6 ∧ w = 1) ∨ (s = 7 ∧ w = 2)) ∧ J 15 3 = evr s
/-- the words of a line are those of its gate, or of its source -/
def REC (I : mI) (s w : Nat) (pa pb : Nat → Nat) (J : mJ) (k : Nat) : Prop :=
  (k < s → ∀ u, u < w → J 26 (k * w + u) = hS s k u ∧ J 28 (k * w + u) = oS k u ∧ J 27 (k * w + u) = zS k u) ∧ (s ≤ k → ∀ u, u < w → J 26 (k * w + u) = gOne (I 3 k) (J 26 (pa k * w + u)) (J 26 (pa k * w + u) ^^^ -1) (J 26 (pb k * w + u)) (J 26 (pb k * w + u) ^^^ -1) &&& evr s ∧ J 28 (k * w + u) = gOne (I 3 k) (J 28 (pa k * w + u)) (J 27 (pa k * w + u)) (J 28 (pb k * w + u)) (J 27 (pb k * w + u)) ∧ J 27 (k * w + u) = gZero (I 3 k) (J 28 (pa k * w + u)) (J 27 (pa k * w + u)) (J 28 (pb k * w + u)) (J 27 (pb k * w + u)))
theorem REC_keep {s w k j n : Nat} {pa pb : Nat → Nat} {J1 J2 : mJ} (h : REC I s w pa pb J1 j) (hk : jKeep J1 J2 k w) (hj : j < k) (hp : s ≤ j → pa j < j ∧ pb j < j) : REC I s w pa pb J2 j := by
  refine ⟨fun q u hu => ?_, fun q u hu => ?_⟩
  · have g := h.1 q u hu
    rw [jKeep_at hk hj hu, jKeep_at hk hj hu, jKeep_at hk hj hu]
    exact g
  · have g := h.2 q u hu
    have p := hp q
    rw [jKeep_at hk hj hu, jKeep_at hk hj hu, jKeep_at hk hj hu, jKeep_at hk (Nat.lt_trans p.1 hj) hu, jKeep_at hk (Nat.lt_trans p.1 hj) hu, jKeep_at hk (Nat.lt_trans p.1 hj) hu, jKeep_at hk (Nat.lt_trans p.2 hj) hu, jKeep_at hk (Nat.lt_trans p.2 hj) hu, jKeep_at hk (Nat.lt_trans p.2 hj) hu]
    exact g
theorem v_fill_l (hx : HX X L9 xs) (hN : clN sh) {n w s : Nat} {pa pb : Nat → Nat} (hV : clV sh n w) (hF : NF I n s pa pb) (hv9 : VF I J s w)  (k62 : ∀ J1 : mJ, ((∀ a, ¬ a = 26 → ¬ a = 27 → ¬ a = 28 → ¬ a = 29 → J1 a = J a) ∧ (∀ u, u < w → J1 29 u = evr s) ∧ (∀ j, j < n → REC I s w pa pb J1 j) ∧ (∀ j u, n ≤ j → u < w → J1 27 (j * w + u) = 0 ∧ J1 28 (j * w + u) = 0)) → LXf TT cl6 X mi_V_fill (40 + 4) (1000 + 200 * 4) D P PX kc ks 62 [(1, .int (Int32.ofInt ((n : Nat) : Int))), (0, .ref 15)] [] (hp sh I J1)) : ∀ (c k : Nat) (J1 : mJ), k + c = n → ((∀ a, ¬ a = 26 → ¬ a = 27 → ¬ a = 28 → ¬ a = 29 → J1 a = J a) ∧ (∀ u, u < w → J1 29 u = evr s) ∧ (∀ j, j < k → REC I s w pa pb J1 j) ∧ (∀ j u, k ≤ j → u < w → J1 27 (j * w + u) = 0 ∧ J1 28 (j * w + u) = 0)) → LXf TT cl6 X mi_V_fill (40 + 4) (1000 + 200 * 4) D P PX kc ks 13 [(1, .int (Int32.ofInt ((k : Nat) : Int))), (0, .ref 15)] [] (hp sh I J1) := by
  obtain ⟨hn, hn2, hs7, hsn, hR, hsc, hso, hsk, hg⟩ := hF
  obtain ⟨hs, hw, hsw, he⟩ := hv9
  intro c
  induction c with
  | zero =>
    intro k J1 hk hi
    obtain rfl : k = n := by omega
    refine lf_iload_n d_V_fill_13 rfl rfl ?_
    refine lf_aload_n d_V_fill_14 rfl rfl rfl ?_
    refine gi_getr s_V_fill_15 (c_15 hV) rfl ?_
    refine gi_geti s_V_fill_18 (c_1 hN) rfl ?_
    refine gi_top hn ?_
    refine gi_icmp_ge d_V_fill_21 (tgt := 62) (by decide) (by omega) (fun hb21 => ?_) (fun hb21 => False.elim (by omega))
    exact k62 J1 hi
  | succ c ih =>
    intro k J1 hk hi
    have he1 : J1 15 3 = evr s := by rw [hi.1 15 (by decide) (by decide) (by decide) (by decide)]; exact he
    rcases Nat.lt_or_ge k s with q | q
    · have hk1 := hsk k q
      refine lf_iload_n d_V_fill_13 rfl rfl ?_
      refine lf_aload_n d_V_fill_14 rfl rfl rfl ?_
      refine gi_getr s_V_fill_15 (c_15 hV) rfl ?_
      refine gi_geti s_V_fill_18 (c_1 hN) rfl ?_
      refine gi_top hn ?_
      refine gi_icmp_ge d_V_fill_21 (tgt := 62) (by decide) (by omega) (fun hb21 => False.elim (by omega)) (fun hb21 => ?_)
      refine lf_aload_n d_V_fill_24 rfl rfl rfl ?_
      refine gi_getr s_V_fill_25 (c_15 hV) rfl ?_
      refine lf_iload_n d_V_fill_28 rfl rfl ?_
      refine gw_callP s_V_fill_29 (n_isGate hx hN hR (by omega)) (S := []) rfl rfl (gcR_2 (c_1 hN)) (by decide) (by decide +kernel) (Nat.le_of_ble_eq_true rfl) ?_
      refine gb_if_eq d_V_fill_32 (tgt := 43) (by decide) (fun hb32 => ?_) (fun hb32 => False.elim (by omega))
      refine lf_aload_n d_V_fill_43 rfl rfl rfl ?_
      refine lf_iload_n d_V_fill_44 rfl rfl ?_
      refine lf_aload_n d_V_fill_45 rfl rfl rfl ?_
      refine gi_getr s_V_fill_46 (c_15 hV) rfl ?_
      refine lf_iload_n d_V_fill_49 rfl rfl ?_
      refine gw_callP s_V_fill_50 (n_sourceAtLine hx hN hsc (by omega) hso q) (S := [_, _]) rfl rfl (gcR_2 (c_1 hN)) (by decide) (by decide +kernel) (Nat.le_of_ble_eq_true rfl) ?_
      refine gw_callV s_V_fill_53 (v_fillSource hx hV hs hsw hn2 hw he1 (by omega) q (fun v hv => hi.2.2.2 k v (Nat.le_refl k) hv)) (S := []) rfl rfl (gcR_2 (c_15 hV)) (by decide) (by decide +kernel) (Nat.le_of_ble_eq_true rfl) (fun I J w53 => ?_)
      obtain ⟨rfl, hj2, hq2⟩ := w53
      refine gi_iincN d_V_fill_56 rfl (by decide +kernel) (L2 := [(1, _), (0, _)]) rfl ?_
      refine lf_goto d_V_fill_59 (tgt := 13) (by decide) ?_
      refine ih (k + 1) J (by omega) ⟨fun a a1 a2 a3 a4 => ?_, fun u hu => ?_, fun j hj => ?_, fun j u hj hu => ?_⟩
      · rw [← hi.1 a a1 a2 a3 a4]
        funext q
        exact hj2 a q (fun z => by omega)
      · rw [hj2 29 u (fun z => by omega)]
        exact hi.2.1 u hu
      · rcases Nat.lt_or_ge j k with z | z
        · exact REC_keep (n := n) (hi.2.2.1 j z) hj2 z (fun y => ⟨(hg j y (by omega)).2.2.2.1, (hg j y (by omega)).2.2.2.2⟩)
        · obtain rfl : j = k := by omega
          exact ⟨fun _ => hq2, fun y => absurd y (Nat.not_le.mpr q)⟩
      · have g := hi.2.2.2 j u (by omega) hu
        have ne : ∀ v, v < w → ¬ j * w + u = k * w + v := fun v hv2 e => aw_ne (a := k) (k := j) (by omega) hv2 hu e.symm
        rw [hj2 27 _ (fun _ => ne), hj2 28 _ (fun _ => ne)]
        exact g
    · have hk1 := hg k q (by omega)
      refine lf_iload_n d_V_fill_13 rfl rfl ?_
      refine lf_aload_n d_V_fill_14 rfl rfl rfl ?_
      refine gi_getr s_V_fill_15 (c_15 hV) rfl ?_
      refine gi_geti s_V_fill_18 (c_1 hN) rfl ?_
      refine gi_top hn ?_
      refine gi_icmp_ge d_V_fill_21 (tgt := 62) (by decide) (by omega) (fun hb21 => False.elim (by omega)) (fun hb21 => ?_)
      refine lf_aload_n d_V_fill_24 rfl rfl rfl ?_
      refine gi_getr s_V_fill_25 (c_15 hV) rfl ?_
      refine lf_iload_n d_V_fill_28 rfl rfl ?_
      refine gw_callP s_V_fill_29 (n_isGate hx hN hR (by omega)) (S := []) rfl rfl (gcR_2 (c_1 hN)) (by decide) (by decide +kernel) (Nat.le_of_ble_eq_true rfl) ?_
      refine gb_if_eq d_V_fill_32 (tgt := 43) (by decide) (fun hb32 => False.elim (by omega)) (fun hb32 => ?_)
      refine lf_aload_n d_V_fill_35 rfl rfl rfl ?_
      refine lf_iload_n d_V_fill_36 rfl rfl ?_
      refine gw_callV s_V_fill_37 (v_fillGate hx hN hV hn2 (by omega) hw he1 (by omega) hk1.1 hk1.2.2.2.1 hk1.2.2.2.2 hk1.2.1 hk1.2.2.1 hR) (S := []) rfl rfl (gcR_2 (c_15 hV)) (by decide) (by decide +kernel) (Nat.le_of_ble_eq_true rfl) (fun I J w37 => ?_)
      obtain ⟨rfl, hj2, hq2⟩ := w37
      refine lf_goto d_V_fill_40 (tgt := 56) (by decide) ?_
      refine gi_iincN d_V_fill_56 rfl (by decide +kernel) (L2 := [(1, _), (0, _)]) rfl ?_
      refine lf_goto d_V_fill_59 (tgt := 13) (by decide) ?_
      refine ih (k + 1) J (by omega) ⟨fun a a1 a2 a3 a4 => ?_, fun u hu => ?_, fun j hj => ?_, fun j u hj hu => ?_⟩
      · rw [← hi.1 a a1 a2 a3 a4]
        funext q
        exact hj2 a q (fun z => by omega)
      · rw [hj2 29 u (fun z => by omega)]
        exact hi.2.1 u hu
      · rcases Nat.lt_or_ge j k with z | z
        · exact REC_keep (n := n) (hi.2.2.1 j z) hj2 z (fun y => ⟨(hg j y (by omega)).2.2.2.1, (hg j y (by omega)).2.2.2.2⟩)
        · obtain rfl : j = k := by omega
          exact ⟨fun y => absurd y (Nat.not_lt.mpr q), fun _ u hu => by
            rw [jKeep_at hj2 hk1.2.2.2.1 hu, jKeep_at hj2 hk1.2.2.2.1 hu, jKeep_at hj2 hk1.2.2.2.1 hu, jKeep_at hj2 hk1.2.2.2.2 hu, jKeep_at hj2 hk1.2.2.2.2 hu, jKeep_at hj2 hk1.2.2.2.2 hu]
            exact hq2 u hu⟩
      · have g := hi.2.2.2 j u (by omega) hu
        have ne : ∀ v, v < w → ¬ j * w + u = k * w + v := fun v hv2 e => aw_ne (a := k) (k := j) (by omega) hv2 hu e.symm
        rw [hj2 27 _ (fun _ => ne), hj2 28 _ (fun _ => ne)]
        exact g
theorem v_fill (hx : HX X L9 xs) (hN : clN sh) {n w s : Nat} {pa pb : Nat → Nat} (hV : clV sh n w) (hF : NF I n s pa pb) (hv9 : VF I J s w) (hz : ∀ q, J 27 q = 0 ∧ J 28 q = 0) : EVv TT cl6 X mi_V_fill 4 [.ref 15] sh I J (fun I1 J1 => I1 = I ∧ (∀ a, ¬ a = 26 → ¬ a = 27 → ¬ a = 28 → ¬ a = 29 → J1 a = J a) ∧ (∀ u, u < w → J1 29 u = evr s) ∧ ∀ j, j < n → REC I s w pa pb J1 j) := by
  refine gw_enter (hx_ok hx) (by decide +kernel) (Nat.le_of_ble_eq_true rfl) (L := [(0, _)]) rfl ?_
  refine lf_aload_n d_V_fill_0 rfl rfl rfl ?_
  refine gi_getr s_V_fill_1 (c_15 hV) rfl ?_
  refine lf_aload_n d_V_fill_4 rfl rfl rfl ?_
  refine gi_getl s_V_fill_5 (c_15 hV) rfl ?_
  refine gw_callV s_V_fill_8 (j_fillL hx (c_29 hV) (by have := hv9.2.2.1; omega)) (S := []) rfl rfl gcR_1 (by decide) (by decide +kernel) (Nat.le_of_ble_eq_true rfl) (fun I J w8 => ?_)
  obtain ⟨hj0, hj1, rfl⟩ := w8
  refine lf_iconst d_V_fill_11 (v := Int32.ofInt ((0 : Nat) : Int)) rfl ?_
  refine lf_istore_n d_V_fill_12 rfl (by decide +kernel) (L2 := [(1, _), (0, _)]) rfl ?_
  refine v_fill_l hx hN hV hF (J := J) ⟨hv9.1, hv9.2.1, hv9.2.2.1, ?_⟩ (fun J1 hi => ?_) n 0 J (by omega) ⟨fun _ _ _ _ _ => rfl, fun u hu => ?_, fun j hj => absurd hj (Nat.not_lt_zero j), fun j u _ hu => ?_⟩
  · rw [hj0 15 (by decide)]; exact hv9.2.2.2
  · refine gw_ret d_V_fill_62 rfl ?_
    exact ⟨rfl, rfl, rfl, fun a a1 a2 a3 a4 => by rw [hi.1 a a1 a2 a3 a4, hj0 a a4], hi.2.1, hi.2.2.1⟩
  · rw [hj1 u hu]; exact hv9.2.2.2
  · rw [hj0 27 (by decide), hj0 28 (by decide)]; exact hz _
end VT3
