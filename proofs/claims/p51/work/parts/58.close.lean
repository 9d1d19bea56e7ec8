section CL1
variable {X : XT} {L9 : Nat} {xs : Nat → Int32} {sh : sM} {I : mI} {J : mJ}

variable {D : mF} {P : Option Value → mF → Prop} {PX : String → mF → Prop} {kc ks : Nat}

theorem h_fill (hx : HX X L9 xs) (hN : clN sh) (hA : clA sh) (hH : clH sh) {n w s : Nat} {pa pb : Nat → Nat} (hV : clV sh n w) (hF : NF I n s pa pb) (hv9 : VF I J s w) (hz : ∀ q, J 27 q = 0 ∧ J 28 q = 0) (hn24 : n ≤ 60) (h4 : I 16 4 = ((s + 1 : Nat) : Int)) (h5 : I 16 5 = ((s + 1 : Nat) : Int)) (h6 : ∀ j, I 31 j = 0 ∧ I 32 j = 0) : EVv TT cl6 X mi_H_fill 6 [.ref 14] sh I J (fun I1 J1 => AL I I1 s n n pa pb ∧ (∀ a, ¬ a = 26 → ¬ a = 27 → ¬ a = 28 → ¬ a = 29 → J1 a = J a) ∧ (∀ u, u < w → J1 29 u = evr s) ∧ ∀ j, j < n → REC I s w pa pb J1 j) := by
  refine gw_enter (hx_ok hx) (by decide +kernel) (Nat.le_of_ble_eq_true rfl) (L := [(0, _)]) rfl ?_
  refine lf_aload_n d_H_fill_0 rfl rfl rfl ?_
  refine gi_getr s_H_fill_1 (c_14 hH) rfl ?_
  refine gw_callV s_H_fill_4 (v_fill hx hN hV hF hv9 hz) (S := []) rfl rfl (gcR_2 (c_15 hV)) (by decide) (by decide +kernel) (Nat.le_of_ble_eq_true rfl) (fun I J w4 => ?_)
  obtain ⟨rfl, q1, q2, q3⟩ := w4
  refine lf_aload_n d_H_fill_7 rfl rfl rfl ?_
  refine gi_getr s_H_fill_8 (c_14 hH) rfl ?_
  refine gw_callV s_H_fill_11 (a_fill hx hN hA hF hn24 h4 h5 h6) (S := []) rfl rfl (gcR_2 (c_16 hA)) (by decide) (by decide +kernel) (Nat.le_of_ble_eq_true rfl) (fun I J w11 => ?_)
  obtain ⟨q4, rfl⟩ := w11
  refine gw_ret d_H_fill_14 rfl ?_
  exact ⟨rfl, rfl, q4, q1, q2, q3⟩
/-- what stands once the nets are closed -/
def CLB (I : mI) (J : mJ) (n s ni no w : Nat) (kd : Nat → Int) (pa pb fi dt : Nat → Nat) (ot : Nat → Nat → Nat) : Prop :=
  NT I n s ni no fi dt ot ∧ VF I J s w ∧ NF I n s pa pb ∧ I 3 = kd ∧ (∀ j, j < n → REC I s w pa pb J j) ∧ (∃ (m : Nat) (lo hi lt : Nat → Nat), LN I s n m lo hi lt kd pa pb) ∧ (I 24 2 = ni ∧ I 24 3 = ((2 ^ (s - ni) : Nat) : Int)) ∧ (∀ j, j < 80 → I 35 j = ((2 * j : Nat) : Int)) ∧ n ≤ 60
/-- what later calls leave alone -/
def FR9 (I1 I : mI) (J1 J : mJ) : Prop := (∀ a q, a < 36 → ¬ a = 13 → ¬ (a = 15 ∧ (q = 9 ∨ q = 10)) → ¬ a = 17 → ¬ (a = 24 ∧ 12 ≤ q) → I1 a q = I a q) ∧ J1 26 = J 26 ∧ J1 27 = J 27 ∧ J1 28 = J 28 ∧ J1 15 3 = J 15 3
theorem FR9_rf : FR9 I I J J := ⟨fun _ _ _ _ _ _ _ => rfl, rfl, rfl, rfl, rfl⟩
theorem FR9_tr {I1 I2 : mI} {J1 J2 : mJ} (h : FR9 I2 I1 J2 J1) (g : FR9 I1 I J1 J) : FR9 I2 I J2 J := ⟨fun a q h1 h2 h3 h4 h5 => (h.1 a q h1 h2 h3 h4 h5).trans (g.1 a q h1 h2 h3 h4 h5), h.2.1.trans g.2.1, h.2.2.1.trans g.2.2.1, h.2.2.2.1.trans g.2.2.2.1, h.2.2.2.2.trans g.2.2.2.2⟩
theorem CLB_K {I1 : mI} {J1 : mJ} {n s ni no w : Nat} {kd : Nat → Int} {pa pb fi dt : Nat → Nat} {ot : Nat → Nat → Nat} (h : FR9 I1 I J1 J) (g : CLB I J n s ni no w kd pa pb fi dt ot) : CLB I1 J1 n s ni no w kd pa pb fi dt ot := by
  obtain ⟨hI, h26, h27, h28, h153⟩ := h
  have e : ∀ a, a < 36 → ¬ a = 13 → ¬ a = 15 → ¬ a = 17 → ¬ a = 24 → I1 a = I a := fun a h1 h2 h3 h4 h5 => by
    funext q
    exact hI a q h1 h2 (fun z => h3 z.1) h4 (fun z => h5 z.1)
  have e1 := e 1 (by decide) (by decide) (by decide) (by decide) (by decide)
  have e3 := e 3 (by decide) (by decide) (by decide) (by decide) (by decide)
  have e4 := e 4 (by decide) (by decide) (by decide) (by decide) (by decide)
  have e5 := e 5 (by decide) (by decide) (by decide) (by decide) (by decide)
  have e6 := e 6 (by decide) (by decide) (by decide) (by decide) (by decide)
  have e7 := e 7 (by decide) (by decide) (by decide) (by decide) (by decide)
  have e9 := e 9 (by decide) (by decide) (by decide) (by decide) (by decide)
  have e10 := e 10 (by decide) (by decide) (by decide) (by decide) (by decide)
  have e11 := e 11 (by decide) (by decide) (by decide) (by decide) (by decide)
  have e12 := e 12 (by decide) (by decide) (by decide) (by decide) (by decide)
  have e16 := e 16 (by decide) (by decide) (by decide) (by decide) (by decide)
  have e31 := e 31 (by decide) (by decide) (by decide) (by decide) (by decide)
  have e32 := e 32 (by decide) (by decide) (by decide) (by decide) (by decide)
  have e33 := e 33 (by decide) (by decide) (by decide) (by decide) (by decide)
  have e35 := e 35 (by decide) (by decide) (by decide) (by decide) (by decide)
  have s1 : I1 15 1 = I 15 1 := hI 15 1 (by decide) (by decide) (by omega) (by decide) (by omega)
  have s2 : I1 15 2 = I 15 2 := hI 15 2 (by decide) (by decide) (by omega) (by decide) (by omega)
  have t2 : I1 24 2 = I 24 2 := hI 24 2 (by decide) (by decide) (by omega) (by decide) (by omega)
  have t3 : I1 24 3 = I 24 3 := hI 24 3 (by decide) (by decide) (by omega) (by decide) (by omega)
  unfold CLB NT VF NF NR REC LN AI at *
  rw [e1, e3, e4, e5, e6, e7, e9, e10, e11, e12, e16, e31, e32, e33, e35, s1, s2, t2, t3, h26, h27, h28, h153]
  exact g
/-- the shapes once closed -/
def SHC (sh : sM) (n s ni w : Nat) : Prop := clM sh (.ref 14) ∧ clN sh ∧ clH sh ∧ clV sh n w ∧ clA sh ∧ clS sh ∧ clT sh (2 ^ s) (2 ^ (s - ni))
theorem KDq_n {z : Int} (h : KDq z) : ¬ z = 105 ∧ ¬ z = 99 := by unfold KDq at h; omega
theorem KCC {n s ni : Nat} {pa pb fi dt : Nat → Nat} (hk1 : ∀ k, k < ni → I 3 k = 105) (hk2 : ∀ k, ni ≤ k → k < s → I 3 k = 99 ∧ I 5 k = dt k ∧ dt k < n ∧ I 7 k = fi k ∧ fi k < 2) (hk3 : ∀ k, s ≤ k → k < n → KDq (I 3 k) ∧ I 5 k = pa k ∧ I 6 k = pb k ∧ pa k < k ∧ pb k < k) : ∀ k, k < n → I 3 k = 99 → 0 ≤ I 5 k := by
  intro k hk h
  rcases Nat.lt_or_ge k ni with z | z
  · rw [hk1 k z] at h; exact absurd h (by decide)
  · rcases Nat.lt_or_ge k s with y | y
    · rw [(hk2 k z y).2.1]; omega
    · exact absurd h (KDq_n (hk3 k y hk).1).2
theorem m_close (hx : HX X L9 xs) (hN : clN sh) (hM : clM sh .null) (hf : ∀ a, 14 ≤ a → a ≤ 80 → sh a = none) (hR : NR I) (h59 : ∀ k, -2147483648 ≤ I 5 k ∧ I 5 k < 2147483648) (hO : ∀ k, 0 ≤ I 10 k ∧ I 10 k ≤ 4) {n s ni no w : Nat} {pa pb fi dt : Nat → Nat} {ot : Nat → Nat → Nat} (hn : I 1 11 = n) (hn2 : n ≤ 60) (hni : I 1 12 = ni) (hsc : I 1 12 + I 11 0 + I 11 1 = (s : Int)) (hns : ni ≤ s ∧ s ≤ n ∧ s ≤ 7) (hsw : (s ≤ 6 ∧ w = 1) ∨ (s = 7 ∧ w = 2)) (hk1 : ∀ k, k < ni → I 3 k = 105) (hk2 : ∀ k, ni ≤ k → k < s → I 3 k = 99 ∧ I 5 k = dt k ∧ dt k < n ∧ I 7 k = fi k ∧ fi k < 2) (hk3 : ∀ k, s ≤ k → k < n → KDq (I 3 k) ∧ I 5 k = pa k ∧ I 6 k = pb k ∧ pa k < k ∧ pb k < k) (hno : ∀ t, t < 2 → I 10 t = no) (hno4 : 1 ≤ no ∧ no ≤ 4) (hot : ∀ t j, t < 2 → j < no → I 9 (t * 4 + j) = ot t j ∧ ot t j < n) : EVa TT cl6 X mi_M_close 8 67 5538 [.ref 0] sh I J (fun v s1 I1 J1 => v = some (.int (Int32.ofInt (s : Int))) ∧ SHC s1 n s ni w ∧ CLB I1 J1 n s ni no w (I 3) pa pb fi dt ot ∧ (∀ a, 80 < a → s1 a = sh a ∧ I1 a = I a ∧ J1 a = J a) ∧ I1 13 = I 13 ∧ (I1 15 9 = 0 ∧ I1 15 10 = ((2 ^ s : Nat) : Int) ∧ J1 15 11 = Int64.ofInt (-1) ∧ (∀ u, u < w → J1 29 u = evr s) ∧ ∀ q, J1 30 q = 0) ∧ I1 17 4 = 0 ∧ (I1 24 12 = 0 ∧ I1 24 13 = -1)) := by
  have hs7 := hns.2.2
  refine gw_enter (hx_ok hx) (by decide +kernel) (Nat.le_of_ble_eq_true rfl) (L := [(0, _)]) rfl ?_
  refine lf_aload_n d_M_close_0 rfl rfl rfl ?_
  refine gw_callN s_M_close_1 (m_mustBeOpen hx hM) (S := []) rfl rfl (gcR_2 (c_0 hM)) (by decide) (by decide +kernel) (Nat.le_of_ble_eq_true rfl) ?_
  refine lf_aload_n d_M_close_4 rfl rfl rfl ?_
  refine gi_getr s_M_close_5 (c_0 hM) rfl ?_
  have hcc : ∀ k, k < n → I 3 k = 99 → 0 ≤ I 5 k := KCC hk1 hk2 hk3
  refine gw_callP s_M_close_8 (n_canBeClosed hx hN hR h59 hO hn (by omega) (b := ((1 : Nat) : Int)) (Or.inl ⟨rfl, hcc, (hno 0 (by decide)).trans (hno 1 (by decide)).symm, by rw [hno 0 (by decide)]; omega⟩)) (S := []) rfl rfl (gcR_2 (c_1 hN)) (by decide) (by decide +kernel) (Nat.le_of_ble_eq_true rfl) ?_
  refine gi_if_ne d_M_close_11 (tgt := 24) (by decide) (by omega) (fun hb11 => ?_) (fun hb11 => False.elim (by omega))
  refine lf_aload_n d_M_close_24 rfl rfl rfl ?_
  refine gi_getr s_M_close_25 (c_0 hM) rfl ?_
  refine gw_callV s_M_close_28 (n_gatherSources hx hN hR hn (by omega) (by omega) hk1 (fun k a b => (hk2 k a b).1) (fun k a b => KDq_n (hk3 k a b).1) hni) (S := []) rfl rfl (gcR_2 (c_1 hN)) (by decide) (by decide +kernel) (Nat.le_of_ble_eq_true rfl) (fun I J w28 => ?_)
  obtain ⟨g1, g2, rfl⟩ := w28
  have hni2 := (congrFun (g1 1 (by decide)) 12).trans hni
  have hn3 := (congrFun (g1 1 (by decide)) 11).trans hn
  have hsc2 := hsumx (congrFun (g1 1 (by decide)) 12) (congrFun (g1 11 (by decide)) 0) (congrFun (g1 11 (by decide)) 1) hsc
  refine gi_new s_M_close_31 cD_2 cZ_2 (q := 14) (hf 14 (by decide) (by decide)) ?_
  refine lf_dup d_M_close_34 rfl ?_
  refine lf_aload_n d_M_close_35 rfl rfl rfl ?_
  refine gi_getr s_M_close_36 (c_0 hM) rfl ?_
  refine gw_callA s_M_close_39 (h_init (sh := spt sh 14 _) (I := izr I 14) (J := jzr J 14) hx rfl (fun a h1 h2 => by rw [spt_o (by omega)]; exact hf a (by omega) (by omega)) (show clN _ from hN) hni2 hn3 hsc2 (by omega) hsw hns.1) (S := [_]) rfl rfl rfl rfl gcR_3 (by decide) (by decide +kernel) (Nat.le_of_ble_eq_true rfl) (kc := 0) (ks := 0) (fun v sh I J w39 hi39 => ?_)
  obtain ⟨rfl, w14, hN2, hH, hV, hA, hS, hT, ⟨hs, hw, he, h9, h10, h11⟩, hz, hzA, h164, h165, ht, h174, h242, h243, h2412, h2413, h2414, h2415⟩ := w39
  have h0 := (w14 0 (by decide) (by decide)).1.trans (c_0 hM)
  have q : ∀ a, a < 14 → I a = _ := fun a ha => (w14 a (by omega) (by omega)).2.1.trans (izr_o (by omega))
  have hF9 : NF I n s pa pb := by
    unfold NF NR
    rw [q 1 (by decide), q 11 (by decide), q 12 (by decide), q 3 (by decide), q 4 (by decide), q 5 (by decide), q 6 (by decide), g1 1 (by decide), g1 11 (by decide), g1 3 (by decide), g1 4 (by decide), g1 5 (by decide), g1 6 (by decide)]
    refine ⟨hn, by omega, hns.2.2, hns.2.1, hR, hsc, g2, fun j hj => ?_, fun j h1 h2 => hk3 j h1 h2⟩
    rcases Nat.lt_or_ge j ni with z | z
    · exact Or.inl (hk1 j z)
    · exact Or.inr (hk2 j z hj).1
  have hz2 : ∀ q, J 27 q = 0 ∧ J 28 q = 0 := fun q => ⟨(hz q).1, (hz q).2.1⟩
  refine lf_astore_n d_M_close_42 rfl (by decide +kernel) rfl (L2 := [(1, _), (0, _)]) rfl ?_
  refine lf_aload_n d_M_close_43 rfl rfl rfl ?_
  refine gw_callV s_M_close_44 (h_fill hx hN2 hA hH hV hF9 ⟨hs, hw, hsw, he⟩ hz2 hn2 h164 h165 hzA) (S := []) rfl rfl (gcR_2 (c_14 hH)) (by decide) (by decide +kernel) (Nat.le_of_ble_eq_true rfl) (fun I J w44 => ?_)
  obtain ⟨fA, fJ, f29, fR⟩ := w44
  
  refine lf_aload_n d_M_close_47 rfl rfl rfl ?_
  refine lf_aload_n d_M_close_48 rfl rfl rfl ?_
  refine gi_putr s_M_close_49 h0 rfl rfl rfl rfl ?_
  obtain ⟨m, lo, hi, lt, gAI, gm, gl, gk⟩ := fA
  have p : ∀ a, a < 14 → I a = _ := fun a h1 => funext fun z => gk a z (by omega) (by omega) (by omega) (by omega)
  have r : ∀ a, a < 14 → ¬ a = 12 → I a = _ := fun a h1 h2 => (p a h1).trans ((q a h1).trans (g1 a h2))
  have e12 : ∀ j, j < s → I 12 j = (j : Int) := fun j hj => (congrFun (p 12 (by decide)) j).trans ((congrFun (q 12 (by decide)) j).trans (g2 j hj))
  have hsc5 := hsumx (congrFun (r 1 (by decide) (by decide)) 12) (congrFun (r 11 (by decide) (by decide)) 0) (congrFun (r 11 (by decide) (by decide)) 1) hsc
  
  refine lf_aload_n d_M_close_52 rfl rfl rfl ?_
  refine gi_getr s_M_close_53 rfl rfl ?_
  refine gw_callP s_M_close_56 (n_sourceCount hx (show clN _ from hN2)) (S := []) rfl rfl (gcR_2 (c_1 hN2)) (by decide) (by decide +kernel) (Nat.le_of_ble_eq_true rfl) ?_
  refine gi_top hsc5 ?_
  refine gw_iret d_M_close_59 rfl ?_
  exact ⟨rfl, ⟨⟨rfl, (w14 2 (by decide) (by decide)).1.trans hM.2⟩, (show clN _ from hN2), (show clH _ from hH), (show clV _ n w from hV), (show clA _ from hA), (show clS _ from hS), (show clT _ (2 ^ s) (2 ^ (s - ni)) from hT)⟩,
    ⟨by
      unfold NT
      rw [r 1 (by decide) (by decide), r 5 (by decide) (by decide), r 7 (by decide) (by decide), r 10 (by decide) (by decide), r 9 (by decide) (by decide)]
      exact ⟨hni, hns.1, e12, fun j h1 h2 => (hk2 j h1 h2).2, hno, hno4.2, hot⟩,
     ⟨(gk 15 1 (by decide) (by decide) (by decide) (by omega)).trans hs, (gk 15 2 (by decide) (by decide) (by decide) (by omega)).trans hw, hsw, (congrFun (fJ 15 (by decide) (by decide) (by decide) (by decide)) 3).trans he⟩,
     by
      unfold NF NR
      rw [p 1 (by decide), p 11 (by decide), p 12 (by decide), p 3 (by decide), p 4 (by decide), p 5 (by decide), p 6 (by decide)]
      exact hF9, r 3 (by decide) (by decide),
     fun j hj => by
      have := fR j hj
      unfold REC at this ⊢
      rw [p 3 (by decide)]
      exact this,
     ⟨m, lo, hi, lt, gAI, fun j hj => ⟨(gl j hj).1, (gl j hj).2.1, fun src => by
      have := (gl j hj).2.2 src
      rw [q 3 (by decide)] at this
      rw [this]
      congr 1
      exact funext fun z => congrFun (g1 3 (by decide)) z⟩⟩,
     ⟨(gk 24 2 (by decide) (by decide) (by decide) (by omega)).trans h242, (gk 24 3 (by decide) (by decide) (by decide) (by omega)).trans h243⟩,
     fun j hj => (gk 35 j (by decide) (by decide) (by decide) (by omega)).trans (ht j hj), hn2⟩,
    fun a ha => ⟨(spt_o (by omega)).trans ((w14 a (by omega) (by omega)).1.trans (spt_o (by omega))), (funext fun z => gk a z (by omega) (by omega) (by omega) (by omega)).trans ((w14 a (by omega) (by omega)).2.1.trans ((izr_o (by omega)).trans (g1 a (by omega)))), (fJ a (by omega) (by omega) (by omega) (by omega)).trans ((w14 a (by omega) (by omega)).2.2.trans (jzr_o (by omega)))⟩,
    r 13 (by decide) (by decide), ⟨(gk 15 9 (by decide) (by decide) (by decide) (by omega)).trans h9, (gk 15 10 (by decide) (by decide) (by decide) (by omega)).trans h10, (congrFun (fJ 15 (by decide) (by decide) (by decide) (by decide)) 11).trans h11, f29, fun x => (congrFun (fJ 30 (by decide) (by decide) (by decide) (by decide)) x).trans (hz x).2.2⟩,
    (gk 17 4 (by decide) (by decide) (by decide) (by omega)).trans h174, (gk 24 12 (by decide) (by decide) (by decide) (by omega)).trans h2412, (gk 24 13 (by decide) (by decide) (by decide) (by omega)).trans h2413⟩
end CL1
