section MC3
variable {X : XT} {L9 : Nat} {xs : Nat → Int32} {sh : sM} {I : mI} {J : mJ}

variable {D : mF} {P : Option Value → mF → Prop} {PX : String → mF → Prop} {kc ks : Nat}

abbrev hSw : Nat → Nat → Nat → Int64 := hS
theorem SR_K {I1 : mI} {J1 : mJ} {w s ni no : Nat} {fi dt : Nat → Nat} {ot : Nat → Nat → Nat} (hI : ∀ a q, (a = 24 ∧ 12 ≤ q) ∨ (36 ≤ a ∧ a ≤ 41) → I1 a q = I a q) (h15 : J1 15 11 = J 15 11) (h26 : J1 26 = J 26) (g : SR I J w s ni no fi dt ot) : SR I1 J1 w s ni no fi dt ot := by
  have e : ∀ a, 36 ≤ a → a ≤ 41 → I1 a = I a := fun a h1 h2 => funext fun q => hI a q (Or.inr ⟨h1, h2⟩)
  have q12 := hI 24 12 (by omega)
  have q14 := hI 24 14 (by omega)
  have q15 := hI 24 15 (by omega)
  have eK : KP J1 = KP J := by
    funext ch
    show lb (J1 15 11) ch = lb (J 15 11) ch
    rw [h15]
  have eN : NX J1 w s ni dt = NX J w s ni dt := by
    funext x ch
    show nxt J1 w s ni dt _ = nxt J w s ni dt _
    unfold nxt hbit
    rw [h26]
  have eU : UL J1 w s ni ot no = UL J w s ni ot no := by
    funext x ch
    show unl2 J1 w s ot no _ = unl2 J w s ot no _
    unfold unl2 out hbit
    rw [h26]
  have eF : fol J1 w s ni dt ot no = fol J w s ni dt ot no := by
    funext c
    unfold fol unl2 nxt out hbit
    rw [h26]
  unfold SR FK CM TRC at *
  rw [e 36 (by decide) (by decide), e 37 (by decide) (by decide), e 38 (by decide) (by decide), e 39 (by decide) (by decide), e 40 (by decide) (by decide), e 41 (by decide) (by decide), q12, q14, q15, eK, eN, eU, eF]
  exact g
theorem NT_17 {I1 : mI} {n s ni no : Nat} {fi dt : Nat → Nat} {ot : Nat → Nat → Nat} (h : ∀ a q, ¬ (a = 17 ∧ (q = 7 ∨ q = 8)) → I1 a q = I a q) (g : NT I n s ni no fi dt ot) : NT I1 n s ni no fi dt ot := by
  have e : ∀ a, ¬ a = 17 → I1 a = I a := fun a h1 => funext fun q => h a q (fun z => h1 z.1)
  unfold NT
  rw [e 1 (by decide), e 12 (by decide), e 5 (by decide), e 7 (by decide), e 10 (by decide), e 9 (by decide)]
  exact g
theorem h_holdsTogether (hx : HX X L9 xs) {n s ni no w : Nat} {kd : Nat → Int} {pa pb fi dt : Nat → Nat} {ot : Nat → Nat → Nat} (hSH : SHC sh n s ni w) (hC : CLB I J n s ni no w kd pa pb fi dt ot) (hsr : SR I J w s ni no fi dt ot) (hsd : I 24 13 = I 15 9) (hr9 : -2147483648 ≤ I 15 9 ∧ I 15 9 < 2147483648) (hkz : ∀ i, 2 ^ s ≤ i → i < 64 * w → kbit J i = false)  : EVi TT cl6 X mi_H_holdsTogether 6 [.ref 14] sh I J (fun r _ _ => r = 1) := by
  obtain ⟨hM, hN, hH, hV, hA, hS, hT⟩ := hSH
  have hnt := hC.1
  have hnf := hC.2.2.1
  obtain ⟨hs, hw, hsw, he⟩ := hC.2.1
  obtain ⟨hi9, hi3⟩ := hC.2.2.2.2.2.2.1
  have h35 := hC.2.2.2.2.2.2.2.1
  have hn60 := hC.2.2.2.2.2.2.2.2
  obtain ⟨hn, hn2, hs7, hsn, hR, hsc, hso, hsk, hg⟩ := hnf
  have hnis := hnt.2.1
  have hp7 := pow2_7 hs7
  have hp0 := Nat.two_pow_pos s
  have hln := hC.2.2.2.2.2.1
  have hrec := hC.2.2.2.2.1
  have hkd := hC.2.2.2.1
  obtain ⟨m, lo, hi, lt, hL⟩ := hln
  have hW := HW_of (I := I) (J := J) (s := s) (n := n) (w := w) (pa := pa) (pb := pb) (fun j h1 h2 => ⟨(hg j h1 h2).1, (hg j h1 h2).2.2.2⟩) hrec
  have hkd2 : (fun j => I 3 j) = kd := hkd
  rw [hkd2] at hW
  have hS9 : ∀ j u, j < s → u < w → J 26 (j * w + u) = hSw s j u := fun j u hj hu => ((hrec j (by omega)).1 hj u hu).1
  have hw2 : w ≤ 2 := by omega
  have hw0 : 0 < w := by omega
  refine gw_enter (hx_ok hx) (by decide +kernel) (Nat.le_of_ble_eq_true rfl) (L := [(0, _)]) rfl ?_
  refine lf_aload_n d_H_holdsTogether_0 rfl rfl rfl ?_
  refine gi_getr s_H_holdsTogether_1 (c_14 hH) rfl ?_
  refine gw_callN s_H_holdsTogether_4 (t_search_k hx hT hV hsd hr9) (S := []) rfl rfl (gcR_2 (c_24 hT)) (by decide) (by decide +kernel) (Nat.le_of_ble_eq_true rfl) ?_
  refine lf_aload_n d_H_holdsTogether_7 rfl rfl rfl ?_
  refine lf_iconst d_H_holdsTogether_8 (v := Int32.ofInt ((0 : Nat) : Int)) rfl ?_
  refine gw_callI s_H_holdsTogether_9 (h_areLinesLiterals hx hN hA hH hV hn2 hw2 hw hn hs7 hsn hso he hL hW hS9 (u := 0) hw0) (S := []) rfl rfl (gcR_2 (c_14 hH)) (by decide) (by decide +kernel) (Nat.le_of_ble_eq_true rfl) (fun r9 I J w9 => ?_)
  obtain ⟨rfl, rfl, r3⟩ := w9
  refine gi_if_eq d_H_holdsTogether_12 (tgt := 55) (by decide) (by omega) (fun hb12 => False.elim (by omega)) (fun hb12 => ?_)
  refine lf_aload_n d_H_holdsTogether_15 rfl rfl rfl ?_
  refine lf_aload_n d_H_holdsTogether_16 rfl rfl rfl ?_
  refine gi_getr s_H_holdsTogether_17 (c_14 hH) rfl ?_
  refine gi_geti s_H_holdsTogether_20 (c_15 hV) rfl ?_
  refine gi_top hw ?_
  refine lf_iconst d_H_holdsTogether_23 (v := Int32.ofInt ((1 : Nat) : Int)) rfl ?_
  refine gi_isubN (a := w) (b := 1) d_H_holdsTogether_24 (by omega) ?_
  refine gw_callI s_H_holdsTogether_25 (h_areLinesLiterals hx hN hA hH hV hn2 hw2 hw hn hs7 hsn hso (by rw [r3 15 (by decide)]; exact he) hL (fun k hk v hv i hi9 => by rw [r3 26 (by decide)]; exact hW k hk v hv i hi9) (fun j v hj hv => by rw [r3 26 (by decide)]; exact hS9 j v hj hv) (u := w - 1) (by omega)) (S := []) rfl rfl (gcR_2 (c_14 hH)) (by decide) (by decide +kernel) (Nat.le_of_ble_eq_true rfl) (fun r25 I J w25 => ?_)
  obtain ⟨rfl, rfl, r4⟩ := w25
  refine gi_if_eq d_H_holdsTogether_28 (tgt := 55) (by decide) (by omega) (fun hb28 => False.elim (by omega)) (fun hb28 => ?_)
  refine lf_aload_n d_H_holdsTogether_31 rfl rfl rfl ?_
  refine gi_getr s_H_holdsTogether_32 (c_14 hH) rfl ?_
  refine gw_callI s_H_holdsTogether_35 (s_isRight hN hx hS hV hn2 hs hw hsw hn h35 (hnt.2.2.2.2.1 0 (by decide)) hnt.2.2.2.2.2.1 (o0 := fun j => ot 0 j) (o1 := fun j => ot 1 j) (fun j hj => ⟨(hnt.2.2.2.2.2.2 0 j (by decide) hj).1, (hnt.2.2.2.2.2.2 1 j (by decide) hj).1, (hnt.2.2.2.2.2.2 0 j (by decide) hj).2, (hnt.2.2.2.2.2.2 1 j (by decide) hj).2⟩) (fun i h1 h2 => by unfold kbit; rw [r4 29 (by decide), r3 29 (by decide)]; exact hkz i h1 h2)) (S := []) rfl rfl (gcR_2 (c_17 hS)) (by decide) (by decide +kernel) (Nat.le_of_ble_eq_true rfl) (fun r35 I J w35 => ?_)
  obtain ⟨rfl, r5, rfl⟩ := w35
  have hsr2 := SR_K (fun a q h => r5 a q (by omega)) ((congrFun (r4 15 (by decide)) 11).trans (congrFun (r3 15 (by decide)) 11)) ((r4 26 (by decide)).trans (r3 26 (by decide))) hsr
  have hnt2 := NT_17 r5 hnt
  refine gi_if_eq d_H_holdsTogether_38 (tgt := 55) (by decide) (by omega) (fun hb38 => False.elim (by omega)) (fun hb38 => ?_)
  refine lf_aload_n d_H_holdsTogether_41 rfl rfl rfl ?_
  refine gi_getr s_H_holdsTogether_42 (c_14 hH) rfl ?_
  refine gw_callP s_H_holdsTogether_45 (t_isTraceRight hx hN hV hn2 ((r5 15 1 (by omega)).trans hs) ((r5 15 2 (by omega)).trans hw) hsw hT rfl hnt2 ((r5 24 2 (by omega)).trans hi9) hsr2) (S := []) rfl rfl (gcR_2 (c_24 hT)) (by decide) (by decide +kernel) (Nat.le_of_ble_eq_true rfl) ?_
  refine gi_if_eq d_H_holdsTogether_48 (tgt := 55) (by decide) (by omega) (fun hb48 => False.elim (by omega)) (fun hb48 => ?_)
  refine lf_iconst d_H_holdsTogether_51 (v := Int32.ofInt ((1 : Nat) : Int)) rfl ?_
  refine lf_goto d_H_holdsTogether_52 (tgt := 56) (by decide) ?_
  refine gw_zret d_H_holdsTogether_56 rfl (by omega) ?_
  exact ⟨rfl, _, rfl, rfl⟩
theorem m_isSound (hx : HX X L9 xs) {n s ni no w : Nat} {kd : Nat → Int} {pa pb fi dt : Nat → Nat} {ot : Nat → Nat → Nat} (hSH : SHC sh n s ni w) (hC : CLB I J n s ni no w kd pa pb fi dt ot) (hsr : SR I J w s ni no fi dt ot) (hsd : I 24 13 = I 15 9) (hr9 : -2147483648 ≤ I 15 9 ∧ I 15 9 < 2147483648) (hkz : ∀ i, 2 ^ s ≤ i → i < 64 * w → kbit J i = false)  : EVi TT cl6 X mi_M_isSound 7 [.ref 0] sh I J (fun r _ _ => r = 1) := by
  have hM := hSH.1
  have hH := hSH.2.2.1
  refine gw_enter (hx_ok hx) (by decide +kernel) (Nat.le_of_ble_eq_true rfl) (L := [(0, _)]) rfl ?_
  refine lf_aload_n d_M_isSound_0 rfl rfl rfl ?_
  refine gi_getr s_M_isSound_1 (c_0 hM) rfl ?_
  refine lf_ifnull_r d_M_isSound_4 rfl ?_
  refine lf_aload_n d_M_isSound_7 rfl rfl rfl ?_
  refine gi_getr s_M_isSound_8 (c_0 hM) rfl ?_
  refine gw_callI s_M_isSound_11 (h_holdsTogether hx hSH hC hsr hsd hr9 hkz) (S := []) rfl rfl (gcR_2 (c_14 hH)) (by decide) (by decide +kernel) (Nat.le_of_ble_eq_true rfl) (fun r11 I J w11 => ?_)
  cases w11
  refine gi_if_eq d_M_isSound_14 (tgt := 21) (by decide) (by omega) (fun hb14 => False.elim (by omega)) (fun hb14 => ?_)
  refine lf_iconst d_M_isSound_17 (v := Int32.ofInt ((1 : Nat) : Int)) rfl ?_
  refine lf_goto d_M_isSound_18 (tgt := 22) (by decide) ?_
  refine gw_zret d_M_isSound_22 rfl (by omega) ?_
  exact ⟨rfl, _, rfl, rfl⟩
theorem m_reached (hx : HX X L9 xs) {n s ni no w : Nat} {kd : Nat → Int} {pa pb fi dt : Nat → Nat} {ot : Nat → Nat → Nat} (hSH : SHC sh n s ni w) (hC : CLB I J n s ni no w kd pa pb fi dt ot) (hc6 : ∀ c, c < 2 ^ ni → c < 64) (hff : I 24 12 = 0 ∨ FK I J w s ni dt ot no) (hr13 : -2147483648 ≤ I 24 13 ∧ I 24 13 < 2147483648) (hr9 : -2147483648 ≤ I 15 9 ∧ I 15 9 < 2147483648) (hsr : I 24 13 = I 15 9 → SR I J w s ni no fi dt ot) : EVi TT cl6 X mi_M_reached 6 [.ref 0] sh I J (fun r I1 J1 => r = ((bCnt (bfs (KP J) (NX J w s ni dt) (UL J w s ni ot no) (2 ^ ni) (fst fi s ni) (2 ^ (s - ni))) : Nat) : Int) ∧ FRM2 I1 I ∧ SR I1 J w s ni no fi dt ot ∧ I1 24 13 = I 15 9 ∧ J1 = J) := by
  obtain ⟨hM, hN, hH, hV, hA, hS, hT⟩ := hSH
  have hnt := hC.1
  have hnf := hC.2.2.1
  obtain ⟨hs, hw, hsw, he⟩ := hC.2.1
  obtain ⟨hi9, hi3⟩ := hC.2.2.2.2.2.2.1
  have h35 := hC.2.2.2.2.2.2.2.1
  have hn60 := hC.2.2.2.2.2.2.2.2
  obtain ⟨hn, hn2, hs7, hsn, hR, hsc, hso, hsk, hg⟩ := hnf
  have hnis := hnt.2.1
  have hp7 := pow2_7 hs7
  have hp0 := Nat.two_pow_pos s
  refine gw_enter (hx_ok hx) (by decide +kernel) (Nat.le_of_ble_eq_true rfl) (L := [(0, _)]) rfl ?_
  refine lf_aload_n d_M_reached_0 rfl rfl rfl ?_
  refine gw_callP s_M_reached_1 (m_mustBeClosed hx hM) (S := []) rfl rfl (gcR_2 (c_0 hM)) (by decide) (by decide +kernel) (Nat.le_of_ble_eq_true rfl) ?_
  refine gi_getr s_M_reached_4 (c_14 hH) rfl ?_
  refine lf_astore_n d_M_reached_7 rfl (by decide +kernel) rfl (L2 := [(1, _), (0, _)]) rfl ?_
  refine lf_aload_n d_M_reached_8 rfl rfl rfl ?_
  refine gw_callV s_M_reached_9 (t_search hx hN hV hn2 hs hw hsw hT rfl hnt hi9 hc6 hff hr13 hr9 hsr) (S := []) rfl rfl (gcR_2 (c_24 hT)) (by decide) (by decide +kernel) (Nat.le_of_ble_eq_true rfl) (fun I J w9 => ?_)
  obtain ⟨u1, u2, u3, rfl⟩ := w9
  refine lf_aload_n d_M_reached_12 rfl rfl rfl ?_
  refine gi_geti s_M_reached_13 (c_24 hT) rfl ?_
  refine gw_iret d_M_reached_16 rfl ?_
  exact ⟨rfl, _, rfl, u2.2.1, u1, u2, u3, rfl⟩
theorem m_difference (hx : HX X L9 xs) {n s ni no w : Nat} {kd : Nat → Int} {pa pb fi dt : Nat → Nat} {ot : Nat → Nat → Nat} (hSH : SHC sh n s ni w) (hC : CLB I J n s ni no w kd pa pb fi dt ot) (hsd : I 24 13 = I 15 9) (hr9 : -2147483648 ≤ I 15 9 ∧ I 15 9 < 2147483648)  : EVp TT cl6 X mi_M_difference 6 [.ref 0] sh I J (.int (Int32.ofInt (I 24 15))) := by
  obtain ⟨hM, hN, hH, hV, hA, hS, hT⟩ := hSH
  have hnt := hC.1
  have hnf := hC.2.2.1
  obtain ⟨hs, hw, hsw, he⟩ := hC.2.1
  obtain ⟨hi9, hi3⟩ := hC.2.2.2.2.2.2.1
  have h35 := hC.2.2.2.2.2.2.2.1
  have hn60 := hC.2.2.2.2.2.2.2.2
  obtain ⟨hn, hn2, hs7, hsn, hR, hsc, hso, hsk, hg⟩ := hnf
  have hnis := hnt.2.1
  have hp7 := pow2_7 hs7
  have hp0 := Nat.two_pow_pos s
  refine gw_enter (hx_ok hx) (by decide +kernel) (Nat.le_of_ble_eq_true rfl) (L := [(0, _)]) rfl ?_
  refine lf_aload_n d_M_difference_0 rfl rfl rfl ?_
  refine gw_callP s_M_difference_1 (m_mustBeClosed hx hM) (S := []) rfl rfl (gcR_2 (c_0 hM)) (by decide) (by decide +kernel) (Nat.le_of_ble_eq_true rfl) ?_
  refine gi_getr s_M_difference_4 (c_14 hH) rfl ?_
  refine lf_astore_n d_M_difference_7 rfl (by decide +kernel) rfl (L2 := [(1, _), (0, _)]) rfl ?_
  refine lf_aload_n d_M_difference_8 rfl rfl rfl ?_
  refine gw_callN s_M_difference_9 (t_search_k hx hT hV hsd hr9) (S := []) rfl rfl (gcR_2 (c_24 hT)) (by decide) (by decide +kernel) (Nat.le_of_ble_eq_true rfl) ?_
  refine lf_aload_n d_M_difference_12 rfl rfl rfl ?_
  refine gi_geti s_M_difference_13 (c_24 hT) rfl ?_
  refine gw_iret d_M_difference_16 rfl ?_
  exact ⟨rfl, rfl, rfl, rfl⟩
theorem m_trace (hx : HX X L9 xs) {n s ni no w : Nat} {kd : Nat → Int} {pa pb fi dt : Nat → Nat} {ot : Nat → Nat → Nat} (hSH : SHC sh n s ni w) (hC : CLB I J n s ni no w kd pa pb fi dt ot) (hsd : I 24 13 = I 15 9) (hr9 : -2147483648 ≤ I 15 9 ∧ I 15 9 < 2147483648) {k : Nat} {da : Int} (hda : I 24 15 = da) (hk : (k : Int) ≤ da) (hda2 : da < ((2 ^ (s - ni) : Nat) : Int)) : EVp TT cl6 X mi_M_trace 6 [.ref 0, .int (Int32.ofInt ((k : Nat) : Int))] sh I J (.int (Int32.ofInt (I 41 k))) := by
  obtain ⟨hM, hN, hH, hV, hA, hS, hT⟩ := hSH
  have hnt := hC.1
  have hnf := hC.2.2.1
  obtain ⟨hs, hw, hsw, he⟩ := hC.2.1
  obtain ⟨hi9, hi3⟩ := hC.2.2.2.2.2.2.1
  have h35 := hC.2.2.2.2.2.2.2.1
  have hn60 := hC.2.2.2.2.2.2.2.2
  obtain ⟨hn, hn2, hs7, hsn, hR, hsc, hso, hsk, hg⟩ := hnf
  have hnis := hnt.2.1
  have hp7 := pow2_7 hs7
  have hp0 := Nat.two_pow_pos s
  have hS128 : 2 ^ (s - ni) ≤ 128 := pow2_7 (by omega)
  refine gw_enter (hx_ok hx) (by decide +kernel) (Nat.le_of_ble_eq_true rfl) (L := [(0, _), (1, _)]) rfl ?_
  refine lf_aload_n d_M_trace_0 rfl rfl rfl ?_
  refine gw_callP s_M_trace_1 (m_mustBeClosed hx hM) (S := []) rfl rfl (gcR_2 (c_0 hM)) (by decide) (by decide +kernel) (Nat.le_of_ble_eq_true rfl) ?_
  refine gi_getr s_M_trace_4 (c_14 hH) rfl ?_
  refine lf_astore_n d_M_trace_7 rfl (by decide +kernel) rfl (L2 := [(2, _), (0, _), (1, _)]) rfl ?_
  refine lf_aload_n d_M_trace_8 rfl rfl rfl ?_
  refine gw_callN s_M_trace_9 (t_search_k hx hT hV hsd hr9) (S := []) rfl rfl (gcR_2 (c_24 hT)) (by decide) (by decide +kernel) (Nat.le_of_ble_eq_true rfl) ?_
  refine lf_iload_n d_M_trace_12 rfl rfl ?_
  refine gi_if_lt d_M_trace_13 (tgt := 24) (by decide) (by omega) (fun hb13 => False.elim (by omega)) (fun hb13 => ?_)
  refine lf_iload_n d_M_trace_16 rfl rfl ?_
  refine lf_aload_n d_M_trace_17 rfl rfl rfl ?_
  refine gi_geti s_M_trace_18 (c_24 hT) rfl ?_
  refine gi_top hda ?_
  refine gi_icmp_le d_M_trace_21 (tgt := 35) (by decide) (by omega) (fun hb21 => ?_) (fun hb21 => False.elim (by omega))
  refine lf_aload_n d_M_trace_35 rfl rfl rfl ?_
  refine lf_iload_n d_M_trace_36 rfl rfl ?_
  refine gw_callP s_M_trace_37 (t_traceAt hx hT (k := k) (by omega)) (S := []) rfl rfl (gcR_2 (c_24 hT)) (by decide) (by decide +kernel) (Nat.le_of_ble_eq_true rfl) ?_
  refine gw_iret d_M_trace_40 rfl ?_
  exact ⟨rfl, rfl, rfl, rfl⟩
theorem m_trace_t (hx : HX X L9 xs) {n s ni no w : Nat} {kd : Nat → Int} {pa pb fi dt : Nat → Nat} {ot : Nat → Nat → Nat} (hSH : SHC sh n s ni w) (hC : CLB I J n s ni no w kd pa pb fi dt ot) (hsd : I 24 13 = I 15 9) (hr9 : -2147483648 ≤ I 15 9 ∧ I 15 9 < 2147483648) {z da : Int} (hz : -2 ≤ z ∧ z < 1000) (hda : I 24 15 = da) (hda2 : -1 ≤ da ∧ da < 1000) (hk : z < 0 ∨ da < z) : EVt TT cl6 X mi_M_trace 6 [.ref 0, .int (Int32.ofInt (z))] sh I J "java/util/NoSuchElementException" := by
  obtain ⟨hM, hN, hH, hV, hA, hS, hT⟩ := hSH
  have hnt := hC.1
  have hnf := hC.2.2.1
  obtain ⟨hs, hw, hsw, he⟩ := hC.2.1
  obtain ⟨hi9, hi3⟩ := hC.2.2.2.2.2.2.1
  have h35 := hC.2.2.2.2.2.2.2.1
  have hn60 := hC.2.2.2.2.2.2.2.2
  obtain ⟨hn, hn2, hs7, hsn, hR, hsc, hso, hsk, hg⟩ := hnf
  have hnis := hnt.2.1
  have hp7 := pow2_7 hs7
  have hp0 := Nat.two_pow_pos s
  refine gw_enter (hx_ok hx) (by decide +kernel) (Nat.le_of_ble_eq_true rfl) (L := [(0, _), (1, _)]) rfl ?_
  refine lf_aload_n d_M_trace_0 rfl rfl rfl ?_
  refine gw_callP s_M_trace_1 (m_mustBeClosed hx hM) (S := []) rfl rfl (gcR_2 (c_0 hM)) (by decide) (by decide +kernel) (Nat.le_of_ble_eq_true rfl) ?_
  refine gi_getr s_M_trace_4 (c_14 hH) rfl ?_
  refine lf_astore_n d_M_trace_7 rfl (by decide +kernel) rfl (L2 := [(2, _), (0, _), (1, _)]) rfl ?_
  refine lf_aload_n d_M_trace_8 rfl rfl rfl ?_
  refine gw_callN s_M_trace_9 (t_search_k hx hT hV hsd hr9) (S := []) rfl rfl (gcR_2 (c_24 hT)) (by decide) (by decide +kernel) (Nat.le_of_ble_eq_true rfl) ?_
  refine lf_iload_n d_M_trace_12 rfl rfl ?_
  refine gi_if_lt d_M_trace_13 (tgt := 24) (by decide) (by omega) (fun hb13 => ?_) (fun hb13 => ?_)
  · refine gw_thr (s_M_trace_24 hx) (by decide) (Nat.le_of_ble_eq_true rfl) ?_
    exact ⟨_, _, _, rfl, rfl, rfl, rfl, rfl⟩
  · refine lf_iload_n d_M_trace_16 rfl rfl ?_
    refine lf_aload_n d_M_trace_17 rfl rfl rfl ?_
    refine gi_geti s_M_trace_18 (c_24 hT) rfl ?_
    refine gi_top hda ?_
    refine gi_icmp_le d_M_trace_21 (tgt := 35) (by decide) (by omega) (fun hb21 => ?_) (fun hb21 => ?_)
    · exact False.elim (by omega)
    · refine gw_thr (s_M_trace_24 hx) (by decide) (Nat.le_of_ble_eq_true rfl) ?_
      exact ⟨_, _, _, rfl, rfl, rfl, rfl, rfl⟩
theorem m_isInductive (hx : HX X L9 xs) {n s ni no w : Nat} {kd : Nat → Int} {pa pb fi dt : Nat → Nat} {ot : Nat → Nat → Nat} (hSH : SHC sh n s ni w) (hC : CLB I J n s ni no w kd pa pb fi dt ot) (hc6 : ∀ c, c < 2 ^ ni → c < 64) (hfk : FK I J w s ni dt ot no) {k : Nat} (hk : k ≤ 20) {da : Int} (hda : I 24 15 = da) (hda2 : -1 ≤ da ∧ da < 1000) (hsd : I 24 13 = I 15 9) (hr9 : -2147483648 ≤ I 15 9 ∧ I 15 9 < 2147483648)  : EVi TT cl6 X mi_M_isInductive 7 [.ref 0, .int (Int32.ofInt ((k : Nat) : Int))] sh I J (fun r I1 J1 => r = bz (!(decide (0 ≤ da) && decide (da < ((k : Nat) : Int))) && !anyB (CP (KP J) ni (unl2 J w s ot no) (alkN (KP J) ni s (unl2 J w s ot no) (fun c => nxt J w s ni dt c) k)) (2 ^ s)) ∧ (∀ a, ¬ a = 42 → ¬ a = 43 → I1 a = I a) ∧ J1 = J) := by
  obtain ⟨hM, hN, hH, hV, hA, hS, hT⟩ := hSH
  have hnt := hC.1
  have hnf := hC.2.2.1
  obtain ⟨hs, hw, hsw, he⟩ := hC.2.1
  obtain ⟨hi9, hi3⟩ := hC.2.2.2.2.2.2.1
  have h35 := hC.2.2.2.2.2.2.2.1
  have hn60 := hC.2.2.2.2.2.2.2.2
  obtain ⟨hn, hn2, hs7, hsn, hR, hsc, hso, hsk, hg⟩ := hnf
  have hnis := hnt.2.1
  have hp7 := pow2_7 hs7
  have hp0 := Nat.two_pow_pos s
  refine gw_enter (hx_ok hx) (by decide +kernel) (Nat.le_of_ble_eq_true rfl) (L := [(0, _), (1, _)]) rfl ?_
  refine lf_iload_n d_M_isInductive_0 rfl rfl ?_
  refine lf_iconst d_M_isInductive_1 (v := Int32.ofInt ((0 : Nat) : Int)) rfl ?_
  refine lf_bipush d_M_isInductive_2 (v := Int32.ofInt ((20 : Nat) : Int)) (by decide +kernel) ?_
  refine gw_callN s_M_isInductive_4 (m_mustBeWithin hx (by omega) (by omega)) (S := []) rfl rfl gcR_1 (by decide) (by decide +kernel) (Nat.le_of_ble_eq_true rfl) ?_
  refine lf_aload_n d_M_isInductive_7 rfl rfl rfl ?_
  refine gw_callP s_M_isInductive_8 (m_mustBeClosed hx hM) (S := []) rfl rfl (gcR_2 (c_0 hM)) (by decide) (by decide +kernel) (Nat.le_of_ble_eq_true rfl) ?_
  refine gi_getr s_M_isInductive_11 (c_14 hH) rfl ?_
  refine lf_iload_n d_M_isInductive_14 rfl rfl ?_
  refine gw_callI s_M_isInductive_15 (t_isProvedBy hx hT hV rfl hs7 hi9 hi3 hnis hc6 hfk (by omega) hda hda2 hsd hr9) (S := []) rfl rfl (gcR_2 (c_24 hT)) (by decide) (by decide +kernel) (Nat.le_of_ble_eq_true rfl) (fun r15 I J w15 => ?_)
  obtain ⟨rfl, u1, rfl⟩ := w15
  have hbz := bz_r (!(decide (0 ≤ da) && decide (da < ((k : Nat) : Int))) && !anyB (CP (KP J) ni (unl2 J w s ot no) (alkN (KP J) ni s (unl2 J w s ot no) (fun c => nxt J w s ni dt c) k)) (2 ^ s))
  refine gw_zret d_M_isInductive_18 rfl (by omega) ?_
  exact ⟨rfl, _, rfl, rfl, u1, rfl⟩
theorem m_isInductive_t (hx : HX X L9 xs) {k : Nat} (hk : 20 < k) (hk2 : k < 1000) : EVt TT cl6 X mi_M_isInductive 7 [.ref 0, .int (Int32.ofInt ((k : Nat) : Int))] sh I J "java/lang/IllegalArgumentException" := by
  refine gw_enter (hx_ok hx) (by decide +kernel) (Nat.le_of_ble_eq_true rfl) (L := [(0, _), (1, _)]) rfl ?_
  refine lf_iload_n d_M_isInductive_0 rfl rfl ?_
  refine lf_iconst d_M_isInductive_1 (v := Int32.ofInt ((0 : Nat) : Int)) rfl ?_
  refine lf_bipush d_M_isInductive_2 (v := Int32.ofInt ((20 : Nat) : Int)) (by decide +kernel) ?_
  refine gw_callT s_M_isInductive_4 (m_mustBeWithin_t hx (by omega) (by omega)) (S := []) rfl rfl gcR_1 (by decide) (by decide +kernel) (Nat.le_of_ble_eq_true rfl) rfl ?_
  exact gt_out rfl ⟨rfl, rfl, rfl, rfl⟩
theorem m_isInvariant (hx : HX X L9 xs) {n s ni no w : Nat} {kd : Nat → Int} {pa pb fi dt : Nat → Nat} {ot : Nat → Nat → Nat} (hSH : SHC sh n s ni w) (hC : CLB I J n s ni no w kd pa pb fi dt ot) (hc6 : ∀ c, c < 2 ^ ni → c < 64) (hfk : FK I J w s ni dt ot no) {k : Nat} (hk : k < n) : EVi TT cl6 X mi_M_isInvariant 7 [.ref 0, .int (Int32.ofInt ((k : Nat) : Int))] sh I J (fun r I1 J1 => r = bz (al1 J w s ni k (fst fi s ni) && !anyB (ivP J w s ni dt k) (2 ^ s)) ∧ (∀ a, ¬ a = 42 → I1 a = I a) ∧ J1 = J) := by
  obtain ⟨hM, hN, hH, hV, hA, hS, hT⟩ := hSH
  have hnt := hC.1
  have hnf := hC.2.2.1
  obtain ⟨hs, hw, hsw, he⟩ := hC.2.1
  obtain ⟨hi9, hi3⟩ := hC.2.2.2.2.2.2.1
  have h35 := hC.2.2.2.2.2.2.2.1
  have hn60 := hC.2.2.2.2.2.2.2.2
  obtain ⟨hn, hn2, hs7, hsn, hR, hsc, hso, hsk, hg⟩ := hnf
  have hnis := hnt.2.1
  have hp7 := pow2_7 hs7
  have hp0 := Nat.two_pow_pos s
  refine gw_enter (hx_ok hx) (by decide +kernel) (Nat.le_of_ble_eq_true rfl) (L := [(0, _), (1, _)]) rfl ?_
  refine lf_aload_n d_M_isInvariant_0 rfl rfl rfl ?_
  refine lf_iload_n d_M_isInvariant_1 rfl rfl ?_
  refine gw_callN s_M_isInvariant_2 (m_mustBeLine hx hN hM hn hn2 (by omega) (by omega)) (S := []) rfl rfl (gcR_2 (c_0 hM)) (by decide) (by decide +kernel) (Nat.le_of_ble_eq_true rfl) ?_
  refine lf_aload_n d_M_isInvariant_5 rfl rfl rfl ?_
  refine gw_callP s_M_isInvariant_6 (m_mustBeClosed hx hM) (S := []) rfl rfl (gcR_2 (c_0 hM)) (by decide) (by decide +kernel) (Nat.le_of_ble_eq_true rfl) ?_
  refine gi_getr s_M_isInvariant_9 (c_14 hH) rfl ?_
  refine lf_iload_n d_M_isInvariant_12 rfl rfl ?_
  refine gw_callI s_M_isInvariant_13 (t_isAlwaysOne hx hN hV hn2 hs hw hsw hT rfl hnt hi9 hi3 hc6 hfk hk) (S := []) rfl rfl (gcR_2 (c_24 hT)) (by decide) (by decide +kernel) (Nat.le_of_ble_eq_true rfl) (fun r13 I J w13 => ?_)
  obtain ⟨rfl, u1, rfl⟩ := w13
  have hbz := bz_r (al1 J w s ni k (fst fi s ni) && !anyB (ivP J w s ni dt k) (2 ^ s))
  refine gw_zret d_M_isInvariant_16 rfl (by omega) ?_
  exact ⟨rfl, _, rfl, rfl, u1, rfl⟩
theorem m_run (hx : HX X L9 xs) {n s ni no w : Nat} {kd : Nat → Int} {pa pb fi dt : Nat → Nat} {ot : Nat → Nat → Nat} (hSH : SHC sh n s ni w) (hC : CLB I J n s ni no w kd pa pb fi dt ot) (hc6 : ∀ c, c < 2 ^ ni → c < 64) {t m ch : Nat} (ht : t < 2) (hm : m ≤ 30) (hch : ch < 2 ^ ni) (hkp : lb (J 15 11) ch = true) : EVp TT cl6 X mi_M_run 5 [.ref 0, .int (Int32.ofInt ((t : Nat) : Int)), .int (Int32.ofInt ((m : Nat) : Int)), .int (Int32.ofInt ((ch : Nat) : Int))] sh I J (.int (Int32.ofInt ((out J w s ot no t (chc ni (itS J w s ni fi dt ch m) ch) : Nat) : Int))) := by
  obtain ⟨hM, hN, hH, hV, hA, hS, hT⟩ := hSH
  have hnt := hC.1
  have hnf := hC.2.2.1
  obtain ⟨hs, hw, hsw, he⟩ := hC.2.1
  obtain ⟨hi9, hi3⟩ := hC.2.2.2.2.2.2.1
  have h35 := hC.2.2.2.2.2.2.2.1
  have hn60 := hC.2.2.2.2.2.2.2.2
  obtain ⟨hn, hn2, hs7, hsn, hR, hsc, hso, hsk, hg⟩ := hnf
  have hnis := hnt.2.1
  have hp7 := pow2_7 hs7
  have hp0 := Nat.two_pow_pos s
  have hp8 := pow2_7 (s := ni) (by omega)
  have hp9 := Nat.two_pow_pos ni
  refine gw_enter (hx_ok hx) (by decide +kernel) (Nat.le_of_ble_eq_true rfl) (L := [(0, _), (1, _), (2, _), (3, _)]) rfl ?_
  refine lf_iload_n d_M_run_0 rfl rfl ?_
  refine lf_iconst d_M_run_1 (v := Int32.ofInt ((0 : Nat) : Int)) rfl ?_
  refine lf_iconst d_M_run_2 (v := Int32.ofInt ((1 : Nat) : Int)) rfl ?_
  refine gw_callN s_M_run_3 (m_mustBeWithin hx (by omega) (by omega)) (S := []) rfl rfl gcR_1 (by decide) (by decide +kernel) (Nat.le_of_ble_eq_true rfl) ?_
  refine lf_iload_n d_M_run_6 rfl rfl ?_
  refine lf_iconst d_M_run_7 (v := Int32.ofInt ((0 : Nat) : Int)) rfl ?_
  refine lf_bipush d_M_run_8 (v := Int32.ofInt ((30 : Nat) : Int)) (by decide +kernel) ?_
  refine gw_callN s_M_run_10 (m_mustBeWithin hx (by omega) (by omega)) (S := []) rfl rfl gcR_1 (by decide) (by decide +kernel) (Nat.le_of_ble_eq_true rfl) ?_
  refine lf_iload_n d_M_run_13 rfl rfl ?_
  refine lf_iconst d_M_run_14 (v := Int32.ofInt ((0 : Nat) : Int)) rfl ?_
  refine lf_iconst d_M_run_15 (v := Int32.ofInt ((1 : Nat) : Int)) rfl ?_
  refine lf_aload_n d_M_run_16 rfl rfl rfl ?_
  refine gi_getr s_M_run_17 (c_0 hM) rfl ?_
  refine gi_geti s_M_run_20 (c_1 hN) rfl ?_
  refine gi_top hnt.1 ?_
  refine gi_ishlN (a := 1) (s := ni) d_M_run_23 (by omega) ?_
  refine gi_top (show ((1 * 2 ^ ni : Nat) : Int) = ((2 ^ ni : Nat) : Int) from by rw [Nat.one_mul]) ?_
  refine lf_iconst d_M_run_24 (v := Int32.ofInt ((1 : Nat) : Int)) rfl ?_
  refine gi_isubN (a := (2 ^ ni)) (b := 1) d_M_run_25 (by omega) ?_
  refine gw_callN s_M_run_26 (m_mustBeWithin hx (by omega) (by omega)) (S := []) rfl rfl gcR_1 (by decide) (by decide +kernel) (Nat.le_of_ble_eq_true rfl) ?_
  refine lf_aload_n d_M_run_29 rfl rfl rfl ?_
  refine gi_getr s_M_run_30 (c_0 hM) rfl ?_
  refine lf_ifnull_r d_M_run_33 rfl ?_
  refine lf_aload_n d_M_run_36 rfl rfl rfl ?_
  refine gi_getr s_M_run_37 (c_0 hM) rfl ?_
  refine gi_getr s_M_run_40 (c_14 hH) rfl ?_
  refine lf_iload_n d_M_run_43 rfl rfl ?_
  refine gw_callP s_M_run_44 (v_areKeptInputs hx hV (c := ch) (hc6 ch hch)) (S := []) rfl rfl (gcR_2 (c_15 hV)) (by decide) (by decide +kernel) (Nat.le_of_ble_eq_true rfl) ?_
  refine gb_if_ne d_M_run_47 (tgt := 60) (by decide) (fun hb47 => ?_) (fun hb47 => False.elim (by exact hb47 hkp))
  refine lf_aload_n d_M_run_60 rfl rfl rfl ?_
  refine gw_callP s_M_run_61 (m_mustBeClosed hx hM) (S := []) rfl rfl (gcR_2 (c_0 hM)) (by decide) (by decide +kernel) (Nat.le_of_ble_eq_true rfl) ?_
  refine gi_getr s_M_run_64 (c_14 hH) rfl ?_
  refine lf_iload_n d_M_run_67 rfl rfl ?_
  refine lf_iload_n d_M_run_68 rfl rfl ?_
  refine lf_iload_n d_M_run_69 rfl rfl ?_
  refine gw_callP s_M_run_70 (t_outputsBehind hx hN hT hV hn2 hs hw hsw hnt hi9 hm ht) (S := []) rfl rfl (gcR_2 (c_24 hT)) (by decide) (by decide +kernel) (Nat.le_of_ble_eq_true rfl) ?_
  refine gw_iret d_M_run_73 rfl ?_
  exact ⟨rfl, rfl, rfl, rfl⟩
theorem m_run_t1 (hx : HX X L9 xs) {n s ni no w : Nat} {kd : Nat → Int} {pa pb fi dt : Nat → Nat} {ot : Nat → Nat → Nat} (hSH : SHC sh n s ni w) (hC : CLB I J n s ni no w kd pa pb fi dt ot) (hc6 : ∀ c, c < 2 ^ ni → c < 64) {t m ch : Nat} (ht : t < 2) (hm : m ≤ 30) (hch : ch < 2 ^ ni) (hkp : ¬ lb (J 15 11) ch = true) : EVt TT cl6 X mi_M_run 5 [.ref 0, .int (Int32.ofInt ((t : Nat) : Int)), .int (Int32.ofInt ((m : Nat) : Int)), .int (Int32.ofInt ((ch : Nat) : Int))] sh I J "java/lang/IllegalArgumentException" := by
  obtain ⟨hM, hN, hH, hV, hA, hS, hT⟩ := hSH
  have hnt := hC.1
  have hnf := hC.2.2.1
  obtain ⟨hs, hw, hsw, he⟩ := hC.2.1
  obtain ⟨hi9, hi3⟩ := hC.2.2.2.2.2.2.1
  have h35 := hC.2.2.2.2.2.2.2.1
  have hn60 := hC.2.2.2.2.2.2.2.2
  obtain ⟨hn, hn2, hs7, hsn, hR, hsc, hso, hsk, hg⟩ := hnf
  have hnis := hnt.2.1
  have hp7 := pow2_7 hs7
  have hp0 := Nat.two_pow_pos s
  have hp8 := pow2_7 (s := ni) (by omega)
  have hp9 := Nat.two_pow_pos ni
  refine gw_enter (hx_ok hx) (by decide +kernel) (Nat.le_of_ble_eq_true rfl) (L := [(0, _), (1, _), (2, _), (3, _)]) rfl ?_
  refine lf_iload_n d_M_run_0 rfl rfl ?_
  refine lf_iconst d_M_run_1 (v := Int32.ofInt ((0 : Nat) : Int)) rfl ?_
  refine lf_iconst d_M_run_2 (v := Int32.ofInt ((1 : Nat) : Int)) rfl ?_
  refine gw_callN s_M_run_3 (m_mustBeWithin hx (by omega) (by omega)) (S := []) rfl rfl gcR_1 (by decide) (by decide +kernel) (Nat.le_of_ble_eq_true rfl) ?_
  refine lf_iload_n d_M_run_6 rfl rfl ?_
  refine lf_iconst d_M_run_7 (v := Int32.ofInt ((0 : Nat) : Int)) rfl ?_
  refine lf_bipush d_M_run_8 (v := Int32.ofInt ((30 : Nat) : Int)) (by decide +kernel) ?_
  refine gw_callN s_M_run_10 (m_mustBeWithin hx (by omega) (by omega)) (S := []) rfl rfl gcR_1 (by decide) (by decide +kernel) (Nat.le_of_ble_eq_true rfl) ?_
  refine lf_iload_n d_M_run_13 rfl rfl ?_
  refine lf_iconst d_M_run_14 (v := Int32.ofInt ((0 : Nat) : Int)) rfl ?_
  refine lf_iconst d_M_run_15 (v := Int32.ofInt ((1 : Nat) : Int)) rfl ?_
  refine lf_aload_n d_M_run_16 rfl rfl rfl ?_
  refine gi_getr s_M_run_17 (c_0 hM) rfl ?_
  refine gi_geti s_M_run_20 (c_1 hN) rfl ?_
  refine gi_top hnt.1 ?_
  refine gi_ishlN (a := 1) (s := ni) d_M_run_23 (by omega) ?_
  refine gi_top (show ((1 * 2 ^ ni : Nat) : Int) = ((2 ^ ni : Nat) : Int) from by rw [Nat.one_mul]) ?_
  refine lf_iconst d_M_run_24 (v := Int32.ofInt ((1 : Nat) : Int)) rfl ?_
  refine gi_isubN (a := (2 ^ ni)) (b := 1) d_M_run_25 (by omega) ?_
  refine gw_callN s_M_run_26 (m_mustBeWithin hx (by omega) (by omega)) (S := []) rfl rfl gcR_1 (by decide) (by decide +kernel) (Nat.le_of_ble_eq_true rfl) ?_
  refine lf_aload_n d_M_run_29 rfl rfl rfl ?_
  refine gi_getr s_M_run_30 (c_0 hM) rfl ?_
  refine lf_ifnull_r d_M_run_33 rfl ?_
  refine lf_aload_n d_M_run_36 rfl rfl rfl ?_
  refine gi_getr s_M_run_37 (c_0 hM) rfl ?_
  refine gi_getr s_M_run_40 (c_14 hH) rfl ?_
  refine lf_iload_n d_M_run_43 rfl rfl ?_
  refine gw_callP s_M_run_44 (v_areKeptInputs hx hV (c := ch) (hc6 ch hch)) (S := []) rfl rfl (gcR_2 (c_15 hV)) (by decide) (by decide +kernel) (Nat.le_of_ble_eq_true rfl) ?_
  refine gb_if_ne d_M_run_47 (tgt := 60) (by decide) (fun hb47 => False.elim (by exact hkp hb47)) (fun hb47 => ?_)
  refine gw_thr (s_M_run_50 hx) (by decide) (Nat.le_of_ble_eq_true rfl) ?_
  exact ⟨_, _, _, rfl, rfl, rfl, rfl, rfl⟩
theorem m_run_t2 (hx : HX X L9 xs) {t m ch : Nat} (ht : t < 2) (hm : 30 < m) (hm2 : m < 1000) : EVt TT cl6 X mi_M_run 5 [.ref 0, .int (Int32.ofInt ((t : Nat) : Int)), .int (Int32.ofInt ((m : Nat) : Int)), .int (Int32.ofInt ((ch : Nat) : Int))] sh I J "java/lang/IllegalArgumentException" := by
  refine gw_enter (hx_ok hx) (by decide +kernel) (Nat.le_of_ble_eq_true rfl) (L := [(0, _), (1, _), (2, _), (3, _)]) rfl ?_
  refine lf_iload_n d_M_run_0 rfl rfl ?_
  refine lf_iconst d_M_run_1 (v := Int32.ofInt ((0 : Nat) : Int)) rfl ?_
  refine lf_iconst d_M_run_2 (v := Int32.ofInt ((1 : Nat) : Int)) rfl ?_
  refine gw_callN s_M_run_3 (m_mustBeWithin hx (by omega) (by omega)) (S := []) rfl rfl gcR_1 (by decide) (by decide +kernel) (Nat.le_of_ble_eq_true rfl) ?_
  refine lf_iload_n d_M_run_6 rfl rfl ?_
  refine lf_iconst d_M_run_7 (v := Int32.ofInt ((0 : Nat) : Int)) rfl ?_
  refine lf_bipush d_M_run_8 (v := Int32.ofInt ((30 : Nat) : Int)) (by decide +kernel) ?_
  refine gw_callT s_M_run_10 (m_mustBeWithin_t hx (by omega) (by omega)) (S := []) rfl rfl gcR_1 (by decide) (by decide +kernel) (Nat.le_of_ble_eq_true rfl) rfl ?_
  exact gt_out rfl ⟨rfl, rfl, rfl, rfl⟩
end MC3
