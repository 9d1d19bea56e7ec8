section MC1
variable {X : XT} {L9 : Nat} {xs : Nat → Int32} {sh : sM} {I : mI} {J : mJ}

variable {D : mF} {P : Option Value → mF → Prop} {PX : String → mF → Prop} {kc ks : Nat}

/-- it throws, and leaves a memory -/
def EVx (X : XT) (mi : MI) (lev : Nat) (a : List Value) (sh : sM) (I : mI) (J : mJ) (E : String) (F : mI → mJ → Prop) : Prop :=
  EVs TT cl6 X mi lev 1 6 a sh I J (fun _ _ _ _ => False) (fun E1 s I1 J1 => E1 = E ∧ s = sh ∧ F I1 J1)
theorem m_value (hx : HX X L9 xs) {n s ni no w : Nat} {kd : Nat → Int} {pa pb fi dt : Nat → Nat} {ot : Nat → Nat → Nat} (hSH : SHC sh n s ni w) (hC : CLB I J n s ni no w kd pa pb fi dt ot) {k c : Nat} (hk : k < n) (hc : c < 2 ^ s) : EVp TT cl6 X mi_M_value 4 [.ref 0, .int (Int32.ofInt ((k : Nat) : Int)), .int (Int32.ofInt ((c : Nat) : Int))] sh I J (.int (Int32.ofInt (bz (hbit J w s k c)))) := by
  obtain ⟨hM, hN, hH, hV, hA, hS, hT⟩ := hSH
  have hnt := hC.1
  have hnf := hC.2.2.1
  obtain ⟨hs, hw, hsw, he⟩ := hC.2.1
  obtain ⟨hi9, hi3⟩ := hC.2.2.2.2.2.2.1
  have h35 := hC.2.2.2.2.2.2.2.1
  have hn60 := hC.2.2.2.2.2.2.2.2
  obtain ⟨hn, hn2, hs7, hsn, hR, hsc, hso, hsk, hg⟩ := hnf
  have hnis := hnt.2.1
  have hp7 := pow2_7 hs7
  have hp0 := Nat.two_pow_pos s
  refine gw_enter (hx_ok hx) (by decide +kernel) (Nat.le_of_ble_eq_true rfl) (L := [(0, _), (1, _), (2, _)]) rfl ?_
  refine lf_aload_n d_M_value_0 rfl rfl rfl ?_
  refine lf_iload_n d_M_value_1 rfl rfl ?_
  refine gw_callN s_M_value_2 (m_mustBeLine hx hN hM hn hn2 (by omega) (by omega)) (S := []) rfl rfl (gcR_2 (c_0 hM)) (by decide) (by decide +kernel) (Nat.le_of_ble_eq_true rfl) ?_
  refine lf_aload_n d_M_value_5 rfl rfl rfl ?_
  refine lf_iload_n d_M_value_6 rfl rfl ?_
  refine gw_callN s_M_value_7 (m_mustBeChoice hx hN hM hsc (by omega) (by omega) (by omega)) (S := []) rfl rfl (gcR_2 (c_0 hM)) (by decide) (by decide +kernel) (Nat.le_of_ble_eq_true rfl) ?_
  refine lf_aload_n d_M_value_10 rfl rfl rfl ?_
  refine gw_callP s_M_value_11 (m_mustBeClosed hx hM) (S := []) rfl rfl (gcR_2 (c_0 hM)) (by decide) (by decide +kernel) (Nat.le_of_ble_eq_true rfl) ?_
  refine gi_getr s_M_value_14 (c_14 hH) rfl ?_
  refine lf_iload_n d_M_value_17 rfl rfl ?_
  refine lf_iload_n d_M_value_18 rfl rfl ?_
  refine gw_callP s_M_value_19 (v_bitAtChoice hx hV hs hsw hn2 hw hk) (S := []) rfl rfl (gcR_2 (c_15 hV)) (by decide) (by decide +kernel) (Nat.le_of_ble_eq_true rfl) ?_
  refine gw_iret d_M_value_22 rfl ?_
  exact ⟨rfl, rfl, rfl, rfl⟩
theorem m_value_t1 (hx : HX X L9 xs) {n s ni no w : Nat} {kd : Nat → Int} {pa pb fi dt : Nat → Nat} {ot : Nat → Nat → Nat} (hSH : SHC sh n s ni w) (hC : CLB I J n s ni no w kd pa pb fi dt ot) {k c : Nat} (hk : k < n) (hc : 2 ^ s ≤ c) (hc2 : c < 1000) : EVt TT cl6 X mi_M_value 4 [.ref 0, .int (Int32.ofInt ((k : Nat) : Int)), .int (Int32.ofInt ((c : Nat) : Int))] sh I J "java/lang/IllegalArgumentException" := by
  obtain ⟨hM, hN, hH, hV, hA, hS, hT⟩ := hSH
  have hnt := hC.1
  have hnf := hC.2.2.1
  obtain ⟨hs, hw, hsw, he⟩ := hC.2.1
  obtain ⟨hi9, hi3⟩ := hC.2.2.2.2.2.2.1
  have h35 := hC.2.2.2.2.2.2.2.1
  have hn60 := hC.2.2.2.2.2.2.2.2
  obtain ⟨hn, hn2, hs7, hsn, hR, hsc, hso, hsk, hg⟩ := hnf
  have hnis := hnt.2.1
  have hp7 := pow2_7 hs7
  have hp0 := Nat.two_pow_pos s
  refine gw_enter (hx_ok hx) (by decide +kernel) (Nat.le_of_ble_eq_true rfl) (L := [(0, _), (1, _), (2, _)]) rfl ?_
  refine lf_aload_n d_M_value_0 rfl rfl rfl ?_
  refine lf_iload_n d_M_value_1 rfl rfl ?_
  refine gw_callN s_M_value_2 (m_mustBeLine hx hN hM hn hn2 (by omega) (by omega)) (S := []) rfl rfl (gcR_2 (c_0 hM)) (by decide) (by decide +kernel) (Nat.le_of_ble_eq_true rfl) ?_
  refine lf_aload_n d_M_value_5 rfl rfl rfl ?_
  refine lf_iload_n d_M_value_6 rfl rfl ?_
  refine gw_callT s_M_value_7 (m_mustBeChoice_t hx hN hM hsc (by omega) (by omega) (by omega)) (S := []) rfl rfl (gcR_2 (c_0 hM)) (by decide) (by decide +kernel) (Nat.le_of_ble_eq_true rfl) rfl ?_
  exact gt_out rfl ⟨rfl, rfl, rfl, rfl⟩
theorem m_value_t2 (hx : HX X L9 xs) {n s ni no w : Nat} {kd : Nat → Int} {pa pb fi dt : Nat → Nat} {ot : Nat → Nat → Nat} (hSH : SHC sh n s ni w) (hC : CLB I J n s ni no w kd pa pb fi dt ot) {k c : Nat} (hk : n ≤ k) (hk2 : k < 1000) : EVt TT cl6 X mi_M_value 4 [.ref 0, .int (Int32.ofInt ((k : Nat) : Int)), .int (Int32.ofInt ((c : Nat) : Int))] sh I J "java/lang/IndexOutOfBoundsException" := by
  obtain ⟨hM, hN, hH, hV, hA, hS, hT⟩ := hSH
  have hnt := hC.1
  have hnf := hC.2.2.1
  obtain ⟨hs, hw, hsw, he⟩ := hC.2.1
  obtain ⟨hi9, hi3⟩ := hC.2.2.2.2.2.2.1
  have h35 := hC.2.2.2.2.2.2.2.1
  have hn60 := hC.2.2.2.2.2.2.2.2
  obtain ⟨hn, hn2, hs7, hsn, hR, hsc, hso, hsk, hg⟩ := hnf
  have hnis := hnt.2.1
  have hp7 := pow2_7 hs7
  have hp0 := Nat.two_pow_pos s
  refine gw_enter (hx_ok hx) (by decide +kernel) (Nat.le_of_ble_eq_true rfl) (L := [(0, _), (1, _), (2, _)]) rfl ?_
  refine lf_aload_n d_M_value_0 rfl rfl rfl ?_
  refine lf_iload_n d_M_value_1 rfl rfl ?_
  refine gw_callT s_M_value_2 (m_mustBeLine_t hx hN hM hn hn2 (by omega) (by omega)) (S := []) rfl rfl (gcR_2 (c_0 hM)) (by decide) (by decide +kernel) (Nat.le_of_ble_eq_true rfl) rfl ?_
  exact gt_out rfl ⟨rfl, rfl, rfl, rfl⟩
theorem m_constrain (hx : HX X L9 xs) {n s ni no w : Nat} {kd : Nat → Int} {pa pb fi dt : Nat → Nat} {ot : Nat → Nat → Nat} (hSH : SHC sh n s ni w) (hC : CLB I J n s ni no w kd pa pb fi dt ot) (h13 : ∀ j, 0 ≤ I 13 j ∧ I 13 j ≤ 1) {k : Nat} (hk : k < n) {hc : Nat → Int} (hc9 : ∀ j, j < n → hc j = if I 3 j = 99 ∨ ((¬ I 3 j = 105 ∧ ¬ I 3 j = 99) ∧ (hc (pa j) = 1 ∨ hc (pb j) = 1)) then 1 else 0) (hcn : ¬ hc k = 1) (hsum : ¬ sumN (fun u => cb (lb (J 29 u &&& J 26 (k * w + u))) 64) w = 0) (h159 : I 15 9 = 0) (hni6 : ni ≤ 6) : EVi TT cl6 X mi_M_constrain 4 [.ref 0, .int (Int32.ofInt ((k : Nat) : Int))] sh I J (fun r I1 J1 => r = ((sumN (fun u => cb (lb (J1 29 u &&& J 26 (k * w + u))) 64) w : Nat) : Int) ∧ FR9 I1 I J1 J ∧ I1 15 9 = 1 ∧ (∀ a q, ¬ a = 13 → ¬ (a = 15 ∧ (q = 9 ∨ q = 10)) → I1 a q = I a q) ∧ (∀ a, ¬ a = 29 → ¬ a = 30 → ¬ a = 15 → J1 a = J a) ∧ (∀ u, u < w → J1 29 u = J 29 u &&& J 26 (k * w + u) ∧ J1 30 u = J 30 u ||| J 27 (k * w + u)) ∧ (∀ i, i < 64 → lb (J1 15 11) i = (decide (i < 2 ^ ni) && kbit J1 (mir s i)))) := by
  obtain ⟨hM, hN, hH, hV, hA, hS, hT⟩ := hSH
  have hnt := hC.1
  have hnf := hC.2.2.1
  obtain ⟨hs, hw, hsw, he⟩ := hC.2.1
  obtain ⟨hi9, hi3⟩ := hC.2.2.2.2.2.2.1
  have h35 := hC.2.2.2.2.2.2.2.1
  have hn60 := hC.2.2.2.2.2.2.2.2
  obtain ⟨hn, hn2, hs7, hsn, hR, hsc, hso, hsk, hg⟩ := hnf
  have hnis := hnt.2.1
  have hp7 := pow2_7 hs7
  have hp0 := Nat.two_pow_pos s
  have hp9 : ∀ j, j ≤ k → (¬ I 3 j = 105 ∧ ¬ I 3 j = 99) → I 5 j = pa j ∧ I 6 j = pb j ∧ pa j < j ∧ pb j < j := fun j hj hq => by
    rcases Nat.lt_or_ge j s with z | z
    · rcases hsk j z with y | y
      · exact absurd y hq.1
      · exact absurd y hq.2
    · exact (hg j z (by omega)).2
  have hkl : ∀ u, sumN (fun u => cb (lb (J 29 u &&& J 26 (k * w + u))) 64) u ≤ 64 * u := by
    intro u
    induction u with
    | zero => exact Nat.le_refl _
    | succ u ih =>
      have := cb_le (p := lb (J 29 u &&& J 26 (k * w + u))) 64
      show sumN _ u + cb (lb (J 29 u &&& J 26 (k * w + u))) 64 ≤ _
      omega
  have hkw := hkl w
  refine gw_enter (hx_ok hx) (by decide +kernel) (Nat.le_of_ble_eq_true rfl) (L := [(0, _), (1, _)]) rfl ?_
  refine lf_aload_n d_M_constrain_0 rfl rfl rfl ?_
  refine lf_iload_n d_M_constrain_1 rfl rfl ?_
  refine gw_callN s_M_constrain_2 (m_mustBeLine hx hN hM hn hn2 (by omega) (by omega)) (S := []) rfl rfl (gcR_2 (c_0 hM)) (by decide) (by decide +kernel) (Nat.le_of_ble_eq_true rfl) ?_
  refine lf_aload_n d_M_constrain_5 rfl rfl rfl ?_
  refine gw_callP s_M_constrain_6 (m_mustBeClosed hx hM) (S := []) rfl rfl (gcR_2 (c_0 hM)) (by decide) (by decide +kernel) (Nat.le_of_ble_eq_true rfl) ?_
  refine gi_getr s_M_constrain_9 (c_14 hH) rfl ?_
  refine lf_astore_n d_M_constrain_12 rfl (by decide +kernel) rfl (L2 := [(2, _), (0, _), (1, _)]) rfl ?_
  refine lf_aload_n d_M_constrain_13 rfl rfl rfl ?_
  refine gi_getr s_M_constrain_14 (c_0 hM) rfl ?_
  refine lf_iload_n d_M_constrain_17 rfl rfl ?_
  refine gw_callI s_M_constrain_18 (n_dependsOnCell hx hN h13 hR (m := k) (by omega) (on := pa) (tw := pb) (hc := hc) hp9 (fun j hj => hc9 j (by omega))) (S := []) rfl rfl (gcR_2 (c_1 hN)) (by decide) (by decide +kernel) (Nat.le_of_ble_eq_true rfl) (fun r18 I J w18 => ?_)
  obtain ⟨rfl, w18a, rfl⟩ := w18
  rw [if_neg hcn]
  refine gi_if_ne d_M_constrain_21 (tgt := 32) (by decide) (by omega) (fun hb21 => False.elim (by omega)) (fun hb21 => ?_)
  refine lf_aload_n d_M_constrain_24 rfl rfl rfl ?_
  refine lf_iload_n d_M_constrain_25 rfl rfl ?_
  refine gw_callP s_M_constrain_26 (v_keptWith hx hV hn2 ((congrFun (w18a 15 (by decide)) 1).trans hs) ((congrFun (w18a 15 (by decide)) 2).trans hw) hsw hk) (S := []) rfl rfl (gcR_2 (c_15 hV)) (by decide) (by decide +kernel) (Nat.le_of_ble_eq_true rfl) ?_
  refine gi_if_ne d_M_constrain_29 (tgt := 42) (by decide) (by omega) (fun hb29 => ?_) (fun hb29 => False.elim (by omega))
  refine lf_aload_n d_M_constrain_42 rfl rfl rfl ?_
  refine gi_geti s_M_constrain_43 (c_15 hV) rfl ?_
  refine gi_top ((congrFun (w18a 15 (by decide)) 9).trans h159) ?_
  refine lf_iconst d_M_constrain_46 (v := Int32.ofInt ((4 : Nat) : Int)) rfl ?_
  refine gi_icmp_lt d_M_constrain_47 (tgt := 60) (by decide) (by omega) (fun hb47 => ?_) (fun hb47 => False.elim (by omega))
  refine lf_aload_n d_M_constrain_60 rfl rfl rfl ?_
  refine lf_iload_n d_M_constrain_61 rfl rfl ?_
  refine gw_callV s_M_constrain_62 (v_keepAlso hx hN hV hn2 ((congrFun (w18a 15 (by decide)) 1).trans hs) ((congrFun (w18a 15 (by decide)) 2).trans hw) hsw hk ((congrFun (w18a 1 (by decide)) 12).trans hnt.1) hni6) (S := []) rfl rfl (gcR_2 (c_15 hV)) (by decide) (by decide +kernel) (Nat.le_of_ble_eq_true rfl) (fun I J w62 => ?_)
  obtain ⟨v1, v2, v3, v4, v5, v6, v7⟩ := w62
  refine lf_aload_n d_M_constrain_65 rfl rfl rfl ?_
  refine gi_geti s_M_constrain_66 (c_15 hV) rfl ?_
  refine gi_top v3 ?_
  refine gw_iret d_M_constrain_69 rfl ?_
  have z1 : ∀ a q, ¬ a = 13 → ¬ (a = 15 ∧ (q = 9 ∨ q = 10)) → I a q = _ := fun a q h1 h2 => (v1 a q h2).trans (congrFun (w18a a h1) q)
  exact ⟨rfl, _, rfl, rfl, ⟨fun a q h1 h2 h3 h4 h5 => z1 a q h2 h3, v4 26 (by decide) (by decide) (by decide), v4 27 (by decide) (by decide) (by decide), v4 28 (by decide) (by decide) (by decide), v5 3 (by decide)⟩, by rw [v2, w18a 15 (by decide), h159]; rfl, z1, v4, v6, v7⟩
theorem m_constrain_t (hx : HX X L9 xs) {n s ni no w : Nat} {kd : Nat → Int} {pa pb fi dt : Nat → Nat} {ot : Nat → Nat → Nat} (hSH : SHC sh n s ni w) (hC : CLB I J n s ni no w kd pa pb fi dt ot) (h13 : ∀ j, 0 ≤ I 13 j ∧ I 13 j ≤ 1) {k : Nat} (hk : k < n) {hc : Nat → Int} (hc9 : ∀ j, j < n → hc j = if I 3 j = 99 ∨ ((¬ I 3 j = 105 ∧ ¬ I 3 j = 99) ∧ (hc (pa j) = 1 ∨ hc (pb j) = 1)) then 1 else 0) (hbad : hc k = 1 ∨ sumN (fun u => cb (lb (J 29 u &&& J 26 (k * w + u))) 64) w = 0) : EVx X mi_M_constrain 4 [.ref 0, .int (Int32.ofInt ((k : Nat) : Int))] sh I J "java/lang/UnsupportedOperationException" (fun I1 J1 => (∀ a, ¬ a = 13 → I1 a = I a) ∧ J1 = J) := by
  obtain ⟨hM, hN, hH, hV, hA, hS, hT⟩ := hSH
  have hnt := hC.1
  have hnf := hC.2.2.1
  obtain ⟨hs, hw, hsw, he⟩ := hC.2.1
  obtain ⟨hi9, hi3⟩ := hC.2.2.2.2.2.2.1
  have h35 := hC.2.2.2.2.2.2.2.1
  have hn60 := hC.2.2.2.2.2.2.2.2
  obtain ⟨hn, hn2, hs7, hsn, hR, hsc, hso, hsk, hg⟩ := hnf
  have hnis := hnt.2.1
  have hp7 := pow2_7 hs7
  have hp0 := Nat.two_pow_pos s
  have hp9 : ∀ j, j ≤ k → (¬ I 3 j = 105 ∧ ¬ I 3 j = 99) → I 5 j = pa j ∧ I 6 j = pb j ∧ pa j < j ∧ pb j < j := fun j hj hq => by
    rcases Nat.lt_or_ge j s with z | z
    · rcases hsk j z with y | y
      · exact absurd y hq.1
      · exact absurd y hq.2
    · exact (hg j z (by omega)).2
  have hkl : ∀ u, sumN (fun u => cb (lb (J 29 u &&& J 26 (k * w + u))) 64) u ≤ 64 * u := by
    intro u
    induction u with
    | zero => exact Nat.le_refl _
    | succ u ih =>
      have := cb_le (p := lb (J 29 u &&& J 26 (k * w + u))) 64
      show sumN _ u + cb (lb (J 29 u &&& J 26 (k * w + u))) 64 ≤ _
      omega
  have hkw := hkl w
  refine gw_enter (hx_ok hx) (by decide +kernel) (Nat.le_of_ble_eq_true rfl) (L := [(0, _), (1, _)]) rfl ?_
  by_cases hcn : hc k = 1
  · refine lf_aload_n d_M_constrain_0 rfl rfl rfl ?_
    refine lf_iload_n d_M_constrain_1 rfl rfl ?_
    refine gw_callN s_M_constrain_2 (m_mustBeLine hx hN hM hn hn2 (by omega) (by omega)) (S := []) rfl rfl (gcR_2 (c_0 hM)) (by decide) (by decide +kernel) (Nat.le_of_ble_eq_true rfl) ?_
    refine lf_aload_n d_M_constrain_5 rfl rfl rfl ?_
    refine gw_callP s_M_constrain_6 (m_mustBeClosed hx hM) (S := []) rfl rfl (gcR_2 (c_0 hM)) (by decide) (by decide +kernel) (Nat.le_of_ble_eq_true rfl) ?_
    refine gi_getr s_M_constrain_9 (c_14 hH) rfl ?_
    refine lf_astore_n d_M_constrain_12 rfl (by decide +kernel) rfl (L2 := [(2, _), (0, _), (1, _)]) rfl ?_
    refine lf_aload_n d_M_constrain_13 rfl rfl rfl ?_
    refine gi_getr s_M_constrain_14 (c_0 hM) rfl ?_
    refine lf_iload_n d_M_constrain_17 rfl rfl ?_
    refine gw_callI s_M_constrain_18 (n_dependsOnCell hx hN h13 hR (m := k) (by omega) (on := pa) (tw := pb) (hc := hc) hp9 (fun j hj => hc9 j (by omega))) (S := []) rfl rfl (gcR_2 (c_1 hN)) (by decide) (by decide +kernel) (Nat.le_of_ble_eq_true rfl) (fun r18 I J w18 => ?_)
    obtain ⟨rfl, w18a, rfl⟩ := w18
    rw [if_pos hcn]
    refine gi_if_ne d_M_constrain_21 (tgt := 32) (by decide) (by omega) (fun hb21 => ?_) (fun hb21 => False.elim (by omega))
    refine gw_thr (s_M_constrain_32 hx) (by decide) (Nat.le_of_ble_eq_true rfl) ?_
    exact ⟨_, _, _, rfl, rfl, rfl, w18a, rfl⟩
  · have hz : sumN (fun u => cb (lb (J 29 u &&& J 26 (k * w + u))) 64) w = 0 := by rcases hbad with z | z; exact absurd z hcn; exact z
    refine lf_aload_n d_M_constrain_0 rfl rfl rfl ?_
    refine lf_iload_n d_M_constrain_1 rfl rfl ?_
    refine gw_callN s_M_constrain_2 (m_mustBeLine hx hN hM hn hn2 (by omega) (by omega)) (S := []) rfl rfl (gcR_2 (c_0 hM)) (by decide) (by decide +kernel) (Nat.le_of_ble_eq_true rfl) ?_
    refine lf_aload_n d_M_constrain_5 rfl rfl rfl ?_
    refine gw_callP s_M_constrain_6 (m_mustBeClosed hx hM) (S := []) rfl rfl (gcR_2 (c_0 hM)) (by decide) (by decide +kernel) (Nat.le_of_ble_eq_true rfl) ?_
    refine gi_getr s_M_constrain_9 (c_14 hH) rfl ?_
    refine lf_astore_n d_M_constrain_12 rfl (by decide +kernel) rfl (L2 := [(2, _), (0, _), (1, _)]) rfl ?_
    refine lf_aload_n d_M_constrain_13 rfl rfl rfl ?_
    refine gi_getr s_M_constrain_14 (c_0 hM) rfl ?_
    refine lf_iload_n d_M_constrain_17 rfl rfl ?_
    refine gw_callI s_M_constrain_18 (n_dependsOnCell hx hN h13 hR (m := k) (by omega) (on := pa) (tw := pb) (hc := hc) hp9 (fun j hj => hc9 j (by omega))) (S := []) rfl rfl (gcR_2 (c_1 hN)) (by decide) (by decide +kernel) (Nat.le_of_ble_eq_true rfl) (fun r18 I J w18 => ?_)
    obtain ⟨rfl, w18a, rfl⟩ := w18
    rw [if_neg hcn]
    refine gi_if_ne d_M_constrain_21 (tgt := 32) (by decide) (by omega) (fun hb21 => False.elim (by omega)) (fun hb21 => ?_)
    refine lf_aload_n d_M_constrain_24 rfl rfl rfl ?_
    refine lf_iload_n d_M_constrain_25 rfl rfl ?_
    refine gw_callP s_M_constrain_26 (v_keptWith hx hV hn2 ((congrFun (w18a 15 (by decide)) 1).trans hs) ((congrFun (w18a 15 (by decide)) 2).trans hw) hsw hk) (S := []) rfl rfl (gcR_2 (c_15 hV)) (by decide) (by decide +kernel) (Nat.le_of_ble_eq_true rfl) ?_
    rw [hz]
    refine gi_if_ne d_M_constrain_29 (tgt := 42) (by decide) (by omega) (fun hb29 => False.elim (by omega)) (fun hb29 => ?_)
    refine gw_thr (s_M_constrain_32 hx) (by decide) (Nat.le_of_ble_eq_true rfl) ?_
    exact ⟨_, _, _, rfl, rfl, rfl, w18a, rfl⟩
theorem m_pattern (hx : HX X L9 xs) {n s ni no w : Nat} {kd : Nat → Int} {pa pb fi dt : Nat → Nat} {ot : Nat → Nat → Nat} (hSH : SHC sh n s ni w) (hC : CLB I J n s ni no w kd pa pb fi dt ot) {p c : Nat} (hc : c < 2 ^ s) (hp : I 17 4 = p) (hp2 : p < 64) (hkb : lb (J 29 (mir s c / 64)) (mir s c % 64) = true) : EVi TT cl6 X mi_M_pattern 4 [.ref 0, .int (Int32.ofInt ((c : Nat) : Int))] sh I J (fun r I1 J1 => r = (p : Int) ∧ I1 = ipt I 17 4 ((p + 1 : Nat) : Int) ∧ ∀ a, ¬ a = 34 → J1 a = J a) := by
  obtain ⟨hM, hN, hH, hV, hA, hS, hT⟩ := hSH
  have hnt := hC.1
  have hnf := hC.2.2.1
  obtain ⟨hs, hw, hsw, he⟩ := hC.2.1
  obtain ⟨hi9, hi3⟩ := hC.2.2.2.2.2.2.1
  have h35 := hC.2.2.2.2.2.2.2.1
  have hn60 := hC.2.2.2.2.2.2.2.2
  obtain ⟨hn, hn2, hs7, hsn, hR, hsc, hso, hsk, hg⟩ := hnf
  have hnis := hnt.2.1
  have hp7 := pow2_7 hs7
  have hp0 := Nat.two_pow_pos s
  refine gw_enter (hx_ok hx) (by decide +kernel) (Nat.le_of_ble_eq_true rfl) (L := [(0, _), (1, _)]) rfl ?_
  refine lf_aload_n d_M_pattern_0 rfl rfl rfl ?_
  refine lf_iload_n d_M_pattern_1 rfl rfl ?_
  refine gw_callN s_M_pattern_2 (m_mustBeChoice hx hN hM hsc (by omega) (by omega) (by omega)) (S := []) rfl rfl (gcR_2 (c_0 hM)) (by decide) (by decide +kernel) (Nat.le_of_ble_eq_true rfl) ?_
  refine lf_aload_n d_M_pattern_5 rfl rfl rfl ?_
  refine gw_callP s_M_pattern_6 (m_mustBeClosed hx hM) (S := []) rfl rfl (gcR_2 (c_0 hM)) (by decide) (by decide +kernel) (Nat.le_of_ble_eq_true rfl) ?_
  refine lf_astore_n d_M_pattern_9 rfl (by decide +kernel) rfl (L2 := [(2, _), (0, _), (1, _)]) rfl ?_
  refine lf_aload_n d_M_pattern_10 rfl rfl rfl ?_
  refine gi_getr s_M_pattern_11 (c_14 hH) rfl ?_
  refine lf_iload_n d_M_pattern_14 rfl rfl ?_
  refine gw_callP s_M_pattern_15 (v_isKept hx hV hs hsw) (S := []) rfl rfl (gcR_2 (c_15 hV)) (by decide) (by decide +kernel) (Nat.le_of_ble_eq_true rfl) ?_
  refine gb_if_ne d_M_pattern_18 (tgt := 31) (by decide) (fun hb18 => ?_) (fun hb18 => False.elim (by exact hb18 hkb))
  refine lf_aload_n d_M_pattern_31 rfl rfl rfl ?_
  refine gi_getr s_M_pattern_32 (c_14 hH) rfl ?_
  refine gi_geti s_M_pattern_35 (c_17 hS) rfl ?_
  refine gi_top hp ?_
  refine lf_bipush d_M_pattern_38 (v := Int32.ofInt ((64 : Nat) : Int)) (by decide +kernel) ?_
  refine gi_icmp_lt d_M_pattern_40 (tgt := 53) (by decide) (by omega) (fun hb40 => ?_) (fun hb40 => False.elim (by omega))
  refine lf_aload_n d_M_pattern_53 rfl rfl rfl ?_
  refine gi_getr s_M_pattern_54 (c_14 hH) rfl ?_
  refine lf_iload_n d_M_pattern_57 rfl rfl ?_
  refine gw_callI s_M_pattern_58 (s_addPattern hN hx hS hV hn2 hs hw hsw hn hp) (S := []) rfl rfl (gcR_2 (c_17 hS)) (by decide) (by decide +kernel) (Nat.le_of_ble_eq_true rfl) (fun r58 I J w58 => ?_)
  refine gw_iret d_M_pattern_61 rfl ?_
  exact ⟨rfl, _, rfl, w58⟩
theorem m_pattern_t1 (hx : HX X L9 xs) {n s ni no w : Nat} {kd : Nat → Int} {pa pb fi dt : Nat → Nat} {ot : Nat → Nat → Nat} (hSH : SHC sh n s ni w) (hC : CLB I J n s ni no w kd pa pb fi dt ot) {c : Nat} (hc : c < 2 ^ s) (hkb : ¬ lb (J 29 (mir s c / 64)) (mir s c % 64) = true) : EVt TT cl6 X mi_M_pattern 4 [.ref 0, .int (Int32.ofInt ((c : Nat) : Int))] sh I J "java/lang/UnsupportedOperationException" := by
  obtain ⟨hM, hN, hH, hV, hA, hS, hT⟩ := hSH
  have hnt := hC.1
  have hnf := hC.2.2.1
  obtain ⟨hs, hw, hsw, he⟩ := hC.2.1
  obtain ⟨hi9, hi3⟩ := hC.2.2.2.2.2.2.1
  have h35 := hC.2.2.2.2.2.2.2.1
  have hn60 := hC.2.2.2.2.2.2.2.2
  obtain ⟨hn, hn2, hs7, hsn, hR, hsc, hso, hsk, hg⟩ := hnf
  have hnis := hnt.2.1
  have hp7 := pow2_7 hs7
  have hp0 := Nat.two_pow_pos s
  refine gw_enter (hx_ok hx) (by decide +kernel) (Nat.le_of_ble_eq_true rfl) (L := [(0, _), (1, _)]) rfl ?_
  refine lf_aload_n d_M_pattern_0 rfl rfl rfl ?_
  refine lf_iload_n d_M_pattern_1 rfl rfl ?_
  refine gw_callN s_M_pattern_2 (m_mustBeChoice hx hN hM hsc (by omega) (by omega) (by omega)) (S := []) rfl rfl (gcR_2 (c_0 hM)) (by decide) (by decide +kernel) (Nat.le_of_ble_eq_true rfl) ?_
  refine lf_aload_n d_M_pattern_5 rfl rfl rfl ?_
  refine gw_callP s_M_pattern_6 (m_mustBeClosed hx hM) (S := []) rfl rfl (gcR_2 (c_0 hM)) (by decide) (by decide +kernel) (Nat.le_of_ble_eq_true rfl) ?_
  refine lf_astore_n d_M_pattern_9 rfl (by decide +kernel) rfl (L2 := [(2, _), (0, _), (1, _)]) rfl ?_
  refine lf_aload_n d_M_pattern_10 rfl rfl rfl ?_
  refine gi_getr s_M_pattern_11 (c_14 hH) rfl ?_
  refine lf_iload_n d_M_pattern_14 rfl rfl ?_
  refine gw_callP s_M_pattern_15 (v_isKept hx hV hs hsw) (S := []) rfl rfl (gcR_2 (c_15 hV)) (by decide) (by decide +kernel) (Nat.le_of_ble_eq_true rfl) ?_
  refine gb_if_ne d_M_pattern_18 (tgt := 31) (by decide) (fun hb18 => False.elim (by exact hkb hb18)) (fun hb18 => ?_)
  refine gw_thr (s_M_pattern_21 hx) (by decide) (Nat.le_of_ble_eq_true rfl) ?_
  exact ⟨_, _, _, rfl, rfl, rfl, rfl, rfl⟩
theorem m_pattern_t2 (hx : HX X L9 xs) {n s ni no w : Nat} {kd : Nat → Int} {pa pb fi dt : Nat → Nat} {ot : Nat → Nat → Nat} (hSH : SHC sh n s ni w) (hC : CLB I J n s ni no w kd pa pb fi dt ot) {c : Nat} (hc : c < 2 ^ s) (hkb : lb (J 29 (mir s c / 64)) (mir s c % 64) = true) (hp : I 17 4 = ((64 : Nat) : Int)) : EVt TT cl6 X mi_M_pattern 4 [.ref 0, .int (Int32.ofInt ((c : Nat) : Int))] sh I J "java/lang/IllegalStateException" := by
  obtain ⟨hM, hN, hH, hV, hA, hS, hT⟩ := hSH
  have hnt := hC.1
  have hnf := hC.2.2.1
  obtain ⟨hs, hw, hsw, he⟩ := hC.2.1
  obtain ⟨hi9, hi3⟩ := hC.2.2.2.2.2.2.1
  have h35 := hC.2.2.2.2.2.2.2.1
  have hn60 := hC.2.2.2.2.2.2.2.2
  obtain ⟨hn, hn2, hs7, hsn, hR, hsc, hso, hsk, hg⟩ := hnf
  have hnis := hnt.2.1
  have hp7 := pow2_7 hs7
  have hp0 := Nat.two_pow_pos s
  refine gw_enter (hx_ok hx) (by decide +kernel) (Nat.le_of_ble_eq_true rfl) (L := [(0, _), (1, _)]) rfl ?_
  refine lf_aload_n d_M_pattern_0 rfl rfl rfl ?_
  refine lf_iload_n d_M_pattern_1 rfl rfl ?_
  refine gw_callN s_M_pattern_2 (m_mustBeChoice hx hN hM hsc (by omega) (by omega) (by omega)) (S := []) rfl rfl (gcR_2 (c_0 hM)) (by decide) (by decide +kernel) (Nat.le_of_ble_eq_true rfl) ?_
  refine lf_aload_n d_M_pattern_5 rfl rfl rfl ?_
  refine gw_callP s_M_pattern_6 (m_mustBeClosed hx hM) (S := []) rfl rfl (gcR_2 (c_0 hM)) (by decide) (by decide +kernel) (Nat.le_of_ble_eq_true rfl) ?_
  refine lf_astore_n d_M_pattern_9 rfl (by decide +kernel) rfl (L2 := [(2, _), (0, _), (1, _)]) rfl ?_
  refine lf_aload_n d_M_pattern_10 rfl rfl rfl ?_
  refine gi_getr s_M_pattern_11 (c_14 hH) rfl ?_
  refine lf_iload_n d_M_pattern_14 rfl rfl ?_
  refine gw_callP s_M_pattern_15 (v_isKept hx hV hs hsw) (S := []) rfl rfl (gcR_2 (c_15 hV)) (by decide) (by decide +kernel) (Nat.le_of_ble_eq_true rfl) ?_
  refine gb_if_ne d_M_pattern_18 (tgt := 31) (by decide) (fun hb18 => ?_) (fun hb18 => False.elim (by exact hb18 hkb))
  refine lf_aload_n d_M_pattern_31 rfl rfl rfl ?_
  refine gi_getr s_M_pattern_32 (c_14 hH) rfl ?_
  refine gi_geti s_M_pattern_35 (c_17 hS) rfl ?_
  refine gi_top hp ?_
  refine lf_bipush d_M_pattern_38 (v := Int32.ofInt ((64 : Nat) : Int)) (by decide +kernel) ?_
  refine gi_icmp_lt d_M_pattern_40 (tgt := 53) (by decide) (by omega) (fun hb40 => False.elim (by omega)) (fun hb40 => ?_)
  refine gw_thr (s_M_pattern_43 hx) (by decide) (Nat.le_of_ble_eq_true rfl) ?_
  exact ⟨_, _, _, rfl, rfl, rfl, rfl, rfl⟩
end MC1
