section CO5
variable {X : XT} {L9 : Nat} {xs : Nat → Int32} {sh : sM} {I : mI} {J : mJ}

variable {D : mF} {P : Option Value → mF → Prop} {PX : String → mF → Prop} {kc ks : Nat}

theorem clN_K {s1 s0 : sM} {I1 I0 : mI} {J1 J0 : mJ} {c0 lo hi : Nat} (h : KEEP s1 I1 J1 s0 I0 J0 c0 lo hi) (hd : (¬ 1 = c0 ∧ (1 < lo ∨ hi < 1)) ∧ (¬ 3 = c0 ∧ (3 < lo ∨ hi < 3)) ∧ (¬ 4 = c0 ∧ (4 < lo ∨ hi < 4)) ∧ (¬ 5 = c0 ∧ (5 < lo ∨ hi < 5)) ∧ (¬ 6 = c0 ∧ (6 < lo ∨ hi < 6)) ∧ (¬ 7 = c0 ∧ (7 < lo ∨ hi < 7)) ∧ (¬ 8 = c0 ∧ (8 < lo ∨ hi < 8)) ∧ (¬ 9 = c0 ∧ (9 < lo ∨ hi < 9)) ∧ (¬ 10 = c0 ∧ (10 < lo ∨ hi < 10)) ∧ (¬ 11 = c0 ∧ (11 < lo ∨ hi < 11)) ∧ (¬ 12 = c0 ∧ (12 < lo ∨ hi < 12)) ∧ (¬ 13 = c0 ∧ (13 < lo ∨ hi < 13))) (g : clN s0) : clN s1 := by
  have e : s1 1 = s0 1 ∧ s1 3 = s0 3 ∧ s1 4 = s0 4 ∧ s1 5 = s0 5 ∧ s1 6 = s0 6 ∧ s1 7 = s0 7 ∧ s1 8 = s0 8 ∧ s1 9 = s0 9 ∧ s1 10 = s0 10 ∧ s1 11 = s0 11 ∧ s1 12 = s0 12 ∧ s1 13 = s0 13 := ⟨(h 1 (by omega) (by omega)).1, (h 3 (by omega) (by omega)).1, (h 4 (by omega) (by omega)).1, (h 5 (by omega) (by omega)).1, (h 6 (by omega) (by omega)).1, (h 7 (by omega) (by omega)).1, (h 8 (by omega) (by omega)).1, (h 9 (by omega) (by omega)).1, (h 10 (by omega) (by omega)).1, (h 11 (by omega) (by omega)).1, (h 12 (by omega) (by omega)).1, (h 13 (by omega) (by omega)).1⟩
  unfold clN at *
  rw [e.1, e.2.1, e.2.2.1, e.2.2.2.1, e.2.2.2.2.1, e.2.2.2.2.2.1, e.2.2.2.2.2.2.1, e.2.2.2.2.2.2.2.1, e.2.2.2.2.2.2.2.2.1, e.2.2.2.2.2.2.2.2.2.1, e.2.2.2.2.2.2.2.2.2.2.1, e.2.2.2.2.2.2.2.2.2.2.2]
  exact g
theorem clV_K {s1 s0 : sM} {I1 I0 : mI} {J1 J0 : mJ} {c0 lo hi : Nat} {n w : Nat} (h : KEEP s1 I1 J1 s0 I0 J0 c0 lo hi) (hd : (¬ 15 = c0 ∧ (15 < lo ∨ hi < 15)) ∧ (¬ 26 = c0 ∧ (26 < lo ∨ hi < 26)) ∧ (¬ 27 = c0 ∧ (27 < lo ∨ hi < 27)) ∧ (¬ 28 = c0 ∧ (28 < lo ∨ hi < 28)) ∧ (¬ 29 = c0 ∧ (29 < lo ∨ hi < 29)) ∧ (¬ 30 = c0 ∧ (30 < lo ∨ hi < 30))) (g : clV s0 n w) : clV s1 n w := by
  have e : s1 15 = s0 15 ∧ s1 26 = s0 26 ∧ s1 27 = s0 27 ∧ s1 28 = s0 28 ∧ s1 29 = s0 29 ∧ s1 30 = s0 30 := ⟨(h 15 (by omega) (by omega)).1, (h 26 (by omega) (by omega)).1, (h 27 (by omega) (by omega)).1, (h 28 (by omega) (by omega)).1, (h 29 (by omega) (by omega)).1, (h 30 (by omega) (by omega)).1⟩
  unfold clV at *
  rw [e.1, e.2.1, e.2.2.1, e.2.2.2.1, e.2.2.2.2.1, e.2.2.2.2.2]
  exact g
theorem clA_K {s1 s0 : sM} {I1 I0 : mI} {J1 J0 : mJ} {c0 lo hi : Nat} (h : KEEP s1 I1 J1 s0 I0 J0 c0 lo hi) (hd : (¬ 16 = c0 ∧ (16 < lo ∨ hi < 16)) ∧ (¬ 31 = c0 ∧ (31 < lo ∨ hi < 31)) ∧ (¬ 32 = c0 ∧ (32 < lo ∨ hi < 32)) ∧ (¬ 33 = c0 ∧ (33 < lo ∨ hi < 33))) (g : clA s0) : clA s1 := by
  have e : s1 16 = s0 16 ∧ s1 31 = s0 31 ∧ s1 32 = s0 32 ∧ s1 33 = s0 33 := ⟨(h 16 (by omega) (by omega)).1, (h 31 (by omega) (by omega)).1, (h 32 (by omega) (by omega)).1, (h 33 (by omega) (by omega)).1⟩
  unfold clA at *
  rw [e.1, e.2.1, e.2.2.1, e.2.2.2]
  exact g
theorem clS_K {s1 s0 : sM} {I1 I0 : mI} {J1 J0 : mJ} {c0 lo hi : Nat} (h : KEEP s1 I1 J1 s0 I0 J0 c0 lo hi) (hd : (¬ 17 = c0 ∧ (17 < lo ∨ hi < 17)) ∧ (¬ 34 = c0 ∧ (34 < lo ∨ hi < 34)) ∧ (¬ 35 = c0 ∧ (35 < lo ∨ hi < 35))) (g : clS s0) : clS s1 := by
  have e : s1 17 = s0 17 ∧ s1 34 = s0 34 ∧ s1 35 = s0 35 := ⟨(h 17 (by omega) (by omega)).1, (h 34 (by omega) (by omega)).1, (h 35 (by omega) (by omega)).1⟩
  unfold clS at *
  rw [e.1, e.2.1, e.2.2]
  exact g
theorem clT_K {s1 s0 : sM} {I1 I0 : mI} {J1 J0 : mJ} {c0 lo hi : Nat} {c s : Nat} (h : KEEP s1 I1 J1 s0 I0 J0 c0 lo hi) (hd : (¬ 24 = c0 ∧ (24 < lo ∨ hi < 24)) ∧ (¬ 36 = c0 ∧ (36 < lo ∨ hi < 36)) ∧ (¬ 37 = c0 ∧ (37 < lo ∨ hi < 37)) ∧ (¬ 38 = c0 ∧ (38 < lo ∨ hi < 38)) ∧ (¬ 39 = c0 ∧ (39 < lo ∨ hi < 39)) ∧ (¬ 40 = c0 ∧ (40 < lo ∨ hi < 40)) ∧ (¬ 41 = c0 ∧ (41 < lo ∨ hi < 41)) ∧ (¬ 42 = c0 ∧ (42 < lo ∨ hi < 42)) ∧ (¬ 43 = c0 ∧ (43 < lo ∨ hi < 43))) (g : clT s0 c s) : clT s1 c s := by
  have e : s1 24 = s0 24 ∧ s1 36 = s0 36 ∧ s1 37 = s0 37 ∧ s1 38 = s0 38 ∧ s1 39 = s0 39 ∧ s1 40 = s0 40 ∧ s1 41 = s0 41 ∧ s1 42 = s0 42 ∧ s1 43 = s0 43 := ⟨(h 24 (by omega) (by omega)).1, (h 36 (by omega) (by omega)).1, (h 37 (by omega) (by omega)).1, (h 38 (by omega) (by omega)).1, (h 39 (by omega) (by omega)).1, (h 40 (by omega) (by omega)).1, (h 41 (by omega) (by omega)).1, (h 42 (by omega) (by omega)).1, (h 43 (by omega) (by omega)).1⟩
  unfold clT at *
  rw [e.1, e.2.1, e.2.2.1, e.2.2.2.1, e.2.2.2.2.1, e.2.2.2.2.2.1, e.2.2.2.2.2.2.1, e.2.2.2.2.2.2.2.1, e.2.2.2.2.2.2.2.2]
  exact g
theorem hsumx {a b c a1 b1 c1 t : Int} (h1 : a = a1) (h2 : b = b1) (h3 : c = c1) (h : a1 + b1 + c1 = t) : a + b + c = t := by subst h1 h2 h3; exact h
theorem h_init (hx : HX X L9 xs) (h0 : sh 14 = some (.inr (2, [.null, .null, .null, .null, .null, .null, .null, .null, .null, .null, .null, .null]))) (hf : ∀ a, 15 ≤ a → a ≤ 80 → sh a = none) (hN : clN sh) {n w s ni : Nat} (hsc1 : I 1 12 = ni) (hn : I 1 11 = n) (hsc : I 1 12 + I 11 0 + I 11 1 = (s : Int)) (hn2 : n ≤ 80) (hsw : (s ≤ 6 ∧ w = 1) ∨ (s = 7 ∧ w = 2)) (hnis : ni ≤ s)  : EVa TT cl6 X mi_H_init 4 66 5526 [.ref 14, .ref 1] sh I J (fun v s1 I1 J1 => v = none ∧ KEEP s1 I1 J1 sh I J 14 15 80 ∧ clN s1 ∧ clH s1 ∧ clV s1 n w ∧ clA s1 ∧ clS s1 ∧ clT s1 (2 ^ s) (2 ^ (s - ni)) ∧ (I1 15 1 = s ∧ I1 15 2 = w ∧ J1 15 3 = evr s ∧ I1 15 9 = 0 ∧ I1 15 10 = ((2 ^ s : Nat) : Int) ∧ J1 15 11 = Int64.ofInt (-1)) ∧ (∀ q, J1 27 q = 0 ∧ J1 28 q = 0 ∧ J1 30 q = 0) ∧ (∀ j, I1 31 j = 0 ∧ I1 32 j = 0) ∧ I1 16 4 = ((s + 1 : Nat) : Int) ∧ I1 16 5 = ((s + 1 : Nat) : Int) ∧ (∀ j, j < 80 → I1 35 j = ((2 * j : Nat) : Int)) ∧ I1 17 4 = 0 ∧ (I1 24 2 = ni ∧ I1 24 3 = ((2 ^ (s - ni) : Nat) : Int) ∧ I1 24 12 = 0 ∧ I1 24 13 = -1 ∧ I1 24 14 = 0 ∧ I1 24 15 = -1)) := by
  have hs7 : s ≤ 7 := by omega
  have hw2 : w ≤ 2 := by omega
  refine gw_enter (hx_ok hx) (by decide +kernel) (Nat.le_of_ble_eq_true rfl) (L := [(0, _), (1, _)]) rfl ?_
  refine lf_aload_n d_H_init_0 rfl rfl rfl ?_
  refine gw_obj s_H_init_1 (Nat.le_of_ble_eq_true rfl) ?_
  refine lf_aload_n d_H_init_4 rfl rfl rfl ?_
  refine lf_aload_n d_H_init_5 rfl rfl rfl ?_
  refine gi_putr s_H_init_6 h0 rfl rfl rfl rfl ?_
  refine lf_aload_n d_H_init_9 rfl rfl rfl ?_
  refine gi_new s_H_init_10 cD_3 cZ_3 (q := 15) (by (repeat (first | rw [spt_o (by decide)] )); exact hf 15 (by decide) (by decide)) ?_
  refine lf_dup d_H_init_13 rfl ?_
  refine lf_aload_n d_H_init_14 rfl rfl rfl ?_
  refine gw_callA s_H_init_15 (v_init (sh := spt (spt sh 14 _) 15 _) (I := izr I 15) (J := jzr J 15) hx rfl (fun a h1 h2 => by (repeat (first | rw [spt_o (by omega)] )); exact hf a (by omega) (by omega)) (show clN _ from hN) hsc hn hn2 hsw) (S := [_, _]) rfl rfl rfl rfl gcR_3 (by decide) (by decide +kernel) (Nat.le_of_ble_eq_true rfl) (kc := 60) (ks := 5030) (fun v sh I J w15 hi15 => ?_)
  obtain ⟨rfl, w15, hV, hs, hw, he, h9, h10, h11, hz⟩ := w15
  have h14 := (w15 14 (by decide) (by decide)).1.trans (show _ = some (.inr (2, [.ref 1, .null, .null, .null, .null, .null, .null, .null, .null, .null, .null, .null])) from rfl)
  have hN := clN_K w15 (by decide) (show clN _ from hN)
  have hsc1 := (congrFun (w15 1 (by decide) (by decide)).2.1 12).trans hsc1
  have hn := (congrFun (w15 1 (by decide) (by decide)).2.1 11).trans hn
  have hsc := hsumx (congrFun (w15 1 (by decide) (by decide)).2.1 12) (congrFun (w15 11 (by decide) (by decide)).2.1 0) (congrFun (w15 11 (by decide) (by decide)).2.1 1) hsc
  have z27 := fun q => (hz q).1
  have z28 := fun q => (hz q).2.1
  have z30 := fun q => (hz q).2.2
  refine gi_putr s_H_init_18 h14 rfl rfl rfl rfl ?_
  refine lf_aload_n d_H_init_21 rfl rfl rfl ?_
  refine gi_new s_H_init_22 cD_4 cZ_4 (q := 16) (by (repeat (first | rw [spt_o (by decide)] | rw [(w15 16 (by decide) (by decide)).1] )); exact hf 16 (by decide) (by decide)) ?_
  refine lf_dup d_H_init_25 rfl ?_
  refine lf_aload_n d_H_init_26 rfl rfl rfl ?_
  refine gw_callA s_H_init_27 (a_init (sh := spt (spt sh 14 _) 16 _) (I := izr I 16) (J := jzr J 16) hx rfl (fun a h1 h2 => by (repeat (first | rw [spt_o (by omega)] | rw [(w15 a (by omega) (by omega)).1] )); exact hf a (by omega) (by omega)) (show clN _ from hN) hsc hs7) (S := [_, _]) rfl rfl rfl rfl gcR_3 (by decide) (by decide +kernel) (Nat.le_of_ble_eq_true rfl) (kc := 56) (ks := 4432) (fun v sh I J w27 hi27 => ?_)
  obtain ⟨rfl, w16, hA, hzA, h164, h165⟩ := w27
  have h14 := (w16 14 (by decide) (by decide)).1.trans (show _ = some (.inr (2, [.ref 1, .ref 15, .null, .null, .null, .null, .null, .null, .null, .null, .null, .null])) from rfl)
  have hN := clN_K w16 (by decide) (show clN _ from hN)
  have hsc1 := (congrFun (w16 1 (by decide) (by decide)).2.1 12).trans hsc1
  have hn := (congrFun (w16 1 (by decide) (by decide)).2.1 11).trans hn
  have hsc := hsumx (congrFun (w16 1 (by decide) (by decide)).2.1 12) (congrFun (w16 11 (by decide) (by decide)).2.1 0) (congrFun (w16 11 (by decide) (by decide)).2.1 1) hsc
  have hV := clV_K w16 (by decide) (show clV _ n w from hV)
  have hs := (congrFun (w16 15 (by decide) (by decide)).2.1 1).trans hs
  have hw := (congrFun (w16 15 (by decide) (by decide)).2.1 2).trans hw
  have he := (congrFun (w16 15 (by decide) (by decide)).2.2 3).trans he
  have h9 := (congrFun (w16 15 (by decide) (by decide)).2.1 9).trans h9
  have h10 := (congrFun (w16 15 (by decide) (by decide)).2.1 10).trans h10
  have h11 := (congrFun (w16 15 (by decide) (by decide)).2.2 11).trans h11
  have z27 := fun j => (congrFun (w16 27 (by decide) (by decide)).2.2 j).trans (z27 j)
  have z28 := fun j => (congrFun (w16 28 (by decide) (by decide)).2.2 j).trans (z28 j)
  have z30 := fun j => (congrFun (w16 30 (by decide) (by decide)).2.2 j).trans (z30 j)
  have z31 := fun j => (hzA j).1
  have z32 := fun j => (hzA j).2
  refine gi_putr s_H_init_30 h14 rfl rfl rfl rfl ?_
  refine lf_aload_n d_H_init_33 rfl rfl rfl ?_
  refine gi_new s_H_init_34 cD_5 cZ_5 (q := 17) (by (repeat (first | rw [spt_o (by decide)] | rw [(w16 17 (by decide) (by decide)).1] | rw [(w15 17 (by decide) (by decide)).1] )); exact hf 17 (by decide) (by decide)) ?_
  refine lf_dup d_H_init_37 rfl ?_
  refine lf_aload_n d_H_init_38 rfl rfl rfl ?_
  refine lf_aload_n d_H_init_39 rfl rfl rfl ?_
  refine gi_getr s_H_init_40 rfl rfl ?_
  refine gw_callA s_H_init_43 (s_init (sh := spt (spt sh 14 _) 17 _) (I := izr I 17) (J := jzr J 17) hx rfl (fun a h1 h2 => by (repeat (first | rw [spt_o (by omega)] | rw [(w16 a (by omega) (by omega)).1] | rw [(w15 a (by omega) (by omega)).1] )); exact hf a (by omega) (by omega))) (S := [_, _]) rfl rfl rfl rfl gcR_3 (by decide) (by decide +kernel) (Nat.le_of_ble_eq_true rfl) (kc := 53) (ks := 4263) (fun v sh I J w43 hi43 => ?_)
  obtain ⟨rfl, w17, hS, ht, h174, h175, h177, h178⟩ := w43
  have h14 := (w17 14 (by decide) (by decide)).1.trans (show _ = some (.inr (2, [.ref 1, .ref 15, .ref 16, .null, .null, .null, .null, .null, .null, .null, .null, .null])) from rfl)
  have hN := clN_K w17 (by decide) (show clN _ from hN)
  have hsc1 := (congrFun (w17 1 (by decide) (by decide)).2.1 12).trans hsc1
  have hn := (congrFun (w17 1 (by decide) (by decide)).2.1 11).trans hn
  have hsc := hsumx (congrFun (w17 1 (by decide) (by decide)).2.1 12) (congrFun (w17 11 (by decide) (by decide)).2.1 0) (congrFun (w17 11 (by decide) (by decide)).2.1 1) hsc
  have hV := clV_K w17 (by decide) (show clV _ n w from hV)
  have hs := (congrFun (w17 15 (by decide) (by decide)).2.1 1).trans hs
  have hw := (congrFun (w17 15 (by decide) (by decide)).2.1 2).trans hw
  have he := (congrFun (w17 15 (by decide) (by decide)).2.2 3).trans he
  have h9 := (congrFun (w17 15 (by decide) (by decide)).2.1 9).trans h9
  have h10 := (congrFun (w17 15 (by decide) (by decide)).2.1 10).trans h10
  have h11 := (congrFun (w17 15 (by decide) (by decide)).2.2 11).trans h11
  have z27 := fun j => (congrFun (w17 27 (by decide) (by decide)).2.2 j).trans (z27 j)
  have z28 := fun j => (congrFun (w17 28 (by decide) (by decide)).2.2 j).trans (z28 j)
  have z30 := fun j => (congrFun (w17 30 (by decide) (by decide)).2.2 j).trans (z30 j)
  have hA := clA_K w17 (by decide) (show clA _ from hA)
  have h164 := (congrFun (w17 16 (by decide) (by decide)).2.1 4).trans h164
  have h165 := (congrFun (w17 16 (by decide) (by decide)).2.1 5).trans h165
  have z31 := fun j => (congrFun (w17 31 (by decide) (by decide)).2.1 j).trans (z31 j)
  have z32 := fun j => (congrFun (w17 32 (by decide) (by decide)).2.1 j).trans (z32 j)
  refine gi_putr s_H_init_46 h14 rfl rfl rfl rfl ?_
  refine lf_aload_n d_H_init_49 rfl rfl rfl ?_
  refine gi_new s_H_init_50 cD_7 cZ_7 (q := 18) (by (repeat (first | rw [spt_o (by decide)] | rw [(w17 18 (by decide) (by decide)).1] | rw [(w16 18 (by decide) (by decide)).1] | rw [(w15 18 (by decide) (by decide)).1] )); exact hf 18 (by decide) (by decide)) ?_
  refine lf_dup d_H_init_53 rfl ?_
  refine lf_aload_n d_H_init_54 rfl rfl rfl ?_
  refine lf_aload_n d_H_init_55 rfl rfl rfl ?_
  refine gi_getr s_H_init_56 rfl rfl ?_
  refine gw_callA s_H_init_59 (d_init (sh := spt (spt sh 14 _) 18 _) (I := izr I 18) (J := jzr J 18) hx rfl (fun a h1 h2 => by (repeat (first | rw [spt_o (by omega)] | rw [(w17 a (by omega) (by omega)).1] | rw [(w16 a (by omega) (by omega)).1] | rw [(w15 a (by omega) (by omega)).1] )); exact hf a (by omega) (by omega)) (show clV _ n w from hV) hs hw hs7 hw2) (S := [_, _]) rfl rfl rfl rfl gcR_3 (by decide) (by decide +kernel) (Nat.le_of_ble_eq_true rfl) (kc := 40) (ks := 3876) (fun v sh I J w59 hi59 => ?_)
  obtain ⟨rfl, w18, -⟩ := w59
  have h14 := (w18 14 (by decide) (by decide)).1.trans (show _ = some (.inr (2, [.ref 1, .ref 15, .ref 16, .ref 17, .null, .null, .null, .null, .null, .null, .null, .null])) from rfl)
  have hN := clN_K w18 (by decide) (show clN _ from hN)
  have hsc1 := (congrFun (w18 1 (by decide) (by decide)).2.1 12).trans hsc1
  have hn := (congrFun (w18 1 (by decide) (by decide)).2.1 11).trans hn
  have hsc := hsumx (congrFun (w18 1 (by decide) (by decide)).2.1 12) (congrFun (w18 11 (by decide) (by decide)).2.1 0) (congrFun (w18 11 (by decide) (by decide)).2.1 1) hsc
  have hV := clV_K w18 (by decide) (show clV _ n w from hV)
  have hs := (congrFun (w18 15 (by decide) (by decide)).2.1 1).trans hs
  have hw := (congrFun (w18 15 (by decide) (by decide)).2.1 2).trans hw
  have he := (congrFun (w18 15 (by decide) (by decide)).2.2 3).trans he
  have h9 := (congrFun (w18 15 (by decide) (by decide)).2.1 9).trans h9
  have h10 := (congrFun (w18 15 (by decide) (by decide)).2.1 10).trans h10
  have h11 := (congrFun (w18 15 (by decide) (by decide)).2.2 11).trans h11
  have z27 := fun j => (congrFun (w18 27 (by decide) (by decide)).2.2 j).trans (z27 j)
  have z28 := fun j => (congrFun (w18 28 (by decide) (by decide)).2.2 j).trans (z28 j)
  have z30 := fun j => (congrFun (w18 30 (by decide) (by decide)).2.2 j).trans (z30 j)
  have hA := clA_K w18 (by decide) (show clA _ from hA)
  have h164 := (congrFun (w18 16 (by decide) (by decide)).2.1 4).trans h164
  have h165 := (congrFun (w18 16 (by decide) (by decide)).2.1 5).trans h165
  have z31 := fun j => (congrFun (w18 31 (by decide) (by decide)).2.1 j).trans (z31 j)
  have z32 := fun j => (congrFun (w18 32 (by decide) (by decide)).2.1 j).trans (z32 j)
  have hS := clS_K w18 (by decide) (show clS _ from hS)
  have ht := fun j hj => (congrFun (w18 35 (by decide) (by decide)).2.1 j).trans (ht j hj)
  have h174 := (congrFun (w18 17 (by decide) (by decide)).2.1 4).trans h174
  have h175 := (congrFun (w18 17 (by decide) (by decide)).2.1 5).trans h175
  have h177 := (congrFun (w18 17 (by decide) (by decide)).2.1 7).trans h177
  have h178 := (congrFun (w18 17 (by decide) (by decide)).2.1 8).trans h178
  refine gi_putr s_H_init_62 h14 rfl rfl rfl rfl ?_
  refine lf_aload_n d_H_init_65 rfl rfl rfl ?_
  refine gi_new s_H_init_66 cD_8 cZ_8 (q := 19) (by (repeat (first | rw [spt_o (by decide)] | rw [(w18 19 (by decide) (by decide)).1] | rw [(w17 19 (by decide) (by decide)).1] | rw [(w16 19 (by decide) (by decide)).1] | rw [(w15 19 (by decide) (by decide)).1] )); exact hf 19 (by decide) (by decide)) ?_
  refine lf_dup d_H_init_69 rfl ?_
  refine lf_aload_n d_H_init_70 rfl rfl rfl ?_
  refine gi_getr s_H_init_71 rfl rfl ?_
  refine lf_iconst d_H_init_74 (v := Int32.ofInt ((2 : Nat) : Int)) rfl ?_
  refine gw_callA s_H_init_75 (c_init19 (sh := spt (spt sh 14 _) 19 _) (I := izr I 19) (J := jzr J 19) hx rfl (fun a h1 h2 => by (repeat (first | rw [spt_o (by omega)] | rw [(w18 a (by omega) (by omega)).1] | rw [(w17 a (by omega) (by omega)).1] | rw [(w16 a (by omega) (by omega)).1] | rw [(w15 a (by omega) (by omega)).1] )); exact hf a (by omega) (by omega))) (S := [_, _]) rfl rfl rfl rfl gcR_3 (by decide) (by decide +kernel) (Nat.le_of_ble_eq_true rfl) (kc := 32) (ks := 3126) (fun v sh I J w75 hi75 => ?_)
  obtain ⟨rfl, w19, -⟩ := w75
  have h14 := (w19 14 (by decide) (by decide)).1.trans (show _ = some (.inr (2, [.ref 1, .ref 15, .ref 16, .ref 17, .ref 18, .null, .null, .null, .null, .null, .null, .null])) from rfl)
  have hN := clN_K w19 (by decide) (show clN _ from hN)
  have hsc1 := (congrFun (w19 1 (by decide) (by decide)).2.1 12).trans hsc1
  have hn := (congrFun (w19 1 (by decide) (by decide)).2.1 11).trans hn
  have hsc := hsumx (congrFun (w19 1 (by decide) (by decide)).2.1 12) (congrFun (w19 11 (by decide) (by decide)).2.1 0) (congrFun (w19 11 (by decide) (by decide)).2.1 1) hsc
  have hV := clV_K w19 (by decide) (show clV _ n w from hV)
  have hs := (congrFun (w19 15 (by decide) (by decide)).2.1 1).trans hs
  have hw := (congrFun (w19 15 (by decide) (by decide)).2.1 2).trans hw
  have he := (congrFun (w19 15 (by decide) (by decide)).2.2 3).trans he
  have h9 := (congrFun (w19 15 (by decide) (by decide)).2.1 9).trans h9
  have h10 := (congrFun (w19 15 (by decide) (by decide)).2.1 10).trans h10
  have h11 := (congrFun (w19 15 (by decide) (by decide)).2.2 11).trans h11
  have z27 := fun j => (congrFun (w19 27 (by decide) (by decide)).2.2 j).trans (z27 j)
  have z28 := fun j => (congrFun (w19 28 (by decide) (by decide)).2.2 j).trans (z28 j)
  have z30 := fun j => (congrFun (w19 30 (by decide) (by decide)).2.2 j).trans (z30 j)
  have hA := clA_K w19 (by decide) (show clA _ from hA)
  have h164 := (congrFun (w19 16 (by decide) (by decide)).2.1 4).trans h164
  have h165 := (congrFun (w19 16 (by decide) (by decide)).2.1 5).trans h165
  have z31 := fun j => (congrFun (w19 31 (by decide) (by decide)).2.1 j).trans (z31 j)
  have z32 := fun j => (congrFun (w19 32 (by decide) (by decide)).2.1 j).trans (z32 j)
  have hS := clS_K w19 (by decide) (show clS _ from hS)
  have ht := fun j hj => (congrFun (w19 35 (by decide) (by decide)).2.1 j).trans (ht j hj)
  have h174 := (congrFun (w19 17 (by decide) (by decide)).2.1 4).trans h174
  have h175 := (congrFun (w19 17 (by decide) (by decide)).2.1 5).trans h175
  have h177 := (congrFun (w19 17 (by decide) (by decide)).2.1 7).trans h177
  have h178 := (congrFun (w19 17 (by decide) (by decide)).2.1 8).trans h178
  refine gi_putr s_H_init_78 h14 rfl rfl rfl rfl ?_
  refine lf_aload_n d_H_init_81 rfl rfl rfl ?_
  refine gi_new s_H_init_82 cD_8 cZ_8 (q := 20) (by (repeat (first | rw [spt_o (by decide)] | rw [(w19 20 (by decide) (by decide)).1] | rw [(w18 20 (by decide) (by decide)).1] | rw [(w17 20 (by decide) (by decide)).1] | rw [(w16 20 (by decide) (by decide)).1] | rw [(w15 20 (by decide) (by decide)).1] )); exact hf 20 (by decide) (by decide)) ?_
  refine lf_dup d_H_init_85 rfl ?_
  refine lf_aload_n d_H_init_86 rfl rfl rfl ?_
  refine gi_getr s_H_init_87 rfl rfl ?_
  refine lf_iconst d_H_init_90 (v := Int32.ofInt ((3 : Nat) : Int)) rfl ?_
  refine gw_callA s_H_init_91 (c_init20 (sh := spt (spt sh 14 _) 20 _) (I := izr I 20) (J := jzr J 20) hx rfl (fun a h1 h2 => by (repeat (first | rw [spt_o (by omega)] | rw [(w19 a (by omega) (by omega)).1] | rw [(w18 a (by omega) (by omega)).1] | rw [(w17 a (by omega) (by omega)).1] | rw [(w16 a (by omega) (by omega)).1] | rw [(w15 a (by omega) (by omega)).1] )); exact hf a (by omega) (by omega))) (S := [_, _]) rfl rfl rfl rfl gcR_3 (by decide) (by decide +kernel) (Nat.le_of_ble_eq_true rfl) (kc := 24) (ks := 2376) (fun v sh I J w91 hi91 => ?_)
  obtain ⟨rfl, w20, -⟩ := w91
  have h14 := (w20 14 (by decide) (by decide)).1.trans (show _ = some (.inr (2, [.ref 1, .ref 15, .ref 16, .ref 17, .ref 18, .ref 19, .null, .null, .null, .null, .null, .null])) from rfl)
  have hN := clN_K w20 (by decide) (show clN _ from hN)
  have hsc1 := (congrFun (w20 1 (by decide) (by decide)).2.1 12).trans hsc1
  have hn := (congrFun (w20 1 (by decide) (by decide)).2.1 11).trans hn
  have hsc := hsumx (congrFun (w20 1 (by decide) (by decide)).2.1 12) (congrFun (w20 11 (by decide) (by decide)).2.1 0) (congrFun (w20 11 (by decide) (by decide)).2.1 1) hsc
  have hV := clV_K w20 (by decide) (show clV _ n w from hV)
  have hs := (congrFun (w20 15 (by decide) (by decide)).2.1 1).trans hs
  have hw := (congrFun (w20 15 (by decide) (by decide)).2.1 2).trans hw
  have he := (congrFun (w20 15 (by decide) (by decide)).2.2 3).trans he
  have h9 := (congrFun (w20 15 (by decide) (by decide)).2.1 9).trans h9
  have h10 := (congrFun (w20 15 (by decide) (by decide)).2.1 10).trans h10
  have h11 := (congrFun (w20 15 (by decide) (by decide)).2.2 11).trans h11
  have z27 := fun j => (congrFun (w20 27 (by decide) (by decide)).2.2 j).trans (z27 j)
  have z28 := fun j => (congrFun (w20 28 (by decide) (by decide)).2.2 j).trans (z28 j)
  have z30 := fun j => (congrFun (w20 30 (by decide) (by decide)).2.2 j).trans (z30 j)
  have hA := clA_K w20 (by decide) (show clA _ from hA)
  have h164 := (congrFun (w20 16 (by decide) (by decide)).2.1 4).trans h164
  have h165 := (congrFun (w20 16 (by decide) (by decide)).2.1 5).trans h165
  have z31 := fun j => (congrFun (w20 31 (by decide) (by decide)).2.1 j).trans (z31 j)
  have z32 := fun j => (congrFun (w20 32 (by decide) (by decide)).2.1 j).trans (z32 j)
  have hS := clS_K w20 (by decide) (show clS _ from hS)
  have ht := fun j hj => (congrFun (w20 35 (by decide) (by decide)).2.1 j).trans (ht j hj)
  have h174 := (congrFun (w20 17 (by decide) (by decide)).2.1 4).trans h174
  have h175 := (congrFun (w20 17 (by decide) (by decide)).2.1 5).trans h175
  have h177 := (congrFun (w20 17 (by decide) (by decide)).2.1 7).trans h177
  have h178 := (congrFun (w20 17 (by decide) (by decide)).2.1 8).trans h178
  refine gi_putr s_H_init_94 h14 rfl rfl rfl rfl ?_
  refine lf_aload_n d_H_init_97 rfl rfl rfl ?_
  refine gi_new s_H_init_98 cD_8 cZ_8 (q := 21) (by (repeat (first | rw [spt_o (by decide)] | rw [(w20 21 (by decide) (by decide)).1] | rw [(w19 21 (by decide) (by decide)).1] | rw [(w18 21 (by decide) (by decide)).1] | rw [(w17 21 (by decide) (by decide)).1] | rw [(w16 21 (by decide) (by decide)).1] | rw [(w15 21 (by decide) (by decide)).1] )); exact hf 21 (by decide) (by decide)) ?_
  refine lf_dup d_H_init_101 rfl ?_
  refine lf_aload_n d_H_init_102 rfl rfl rfl ?_
  refine gi_getr s_H_init_103 rfl rfl ?_
  refine lf_iconst d_H_init_106 (v := Int32.ofInt ((4 : Nat) : Int)) rfl ?_
  refine gw_callA s_H_init_107 (c_init21 (sh := spt (spt sh 14 _) 21 _) (I := izr I 21) (J := jzr J 21) hx rfl (fun a h1 h2 => by (repeat (first | rw [spt_o (by omega)] | rw [(w20 a (by omega) (by omega)).1] | rw [(w19 a (by omega) (by omega)).1] | rw [(w18 a (by omega) (by omega)).1] | rw [(w17 a (by omega) (by omega)).1] | rw [(w16 a (by omega) (by omega)).1] | rw [(w15 a (by omega) (by omega)).1] )); exact hf a (by omega) (by omega))) (S := [_, _]) rfl rfl rfl rfl gcR_3 (by decide) (by decide +kernel) (Nat.le_of_ble_eq_true rfl) (kc := 16) (ks := 1626) (fun v sh I J w107 hi107 => ?_)
  obtain ⟨rfl, w21, -⟩ := w107
  have h14 := (w21 14 (by decide) (by decide)).1.trans (show _ = some (.inr (2, [.ref 1, .ref 15, .ref 16, .ref 17, .ref 18, .ref 19, .ref 20, .null, .null, .null, .null, .null])) from rfl)
  have hN := clN_K w21 (by decide) (show clN _ from hN)
  have hsc1 := (congrFun (w21 1 (by decide) (by decide)).2.1 12).trans hsc1
  have hn := (congrFun (w21 1 (by decide) (by decide)).2.1 11).trans hn
  have hsc := hsumx (congrFun (w21 1 (by decide) (by decide)).2.1 12) (congrFun (w21 11 (by decide) (by decide)).2.1 0) (congrFun (w21 11 (by decide) (by decide)).2.1 1) hsc
  have hV := clV_K w21 (by decide) (show clV _ n w from hV)
  have hs := (congrFun (w21 15 (by decide) (by decide)).2.1 1).trans hs
  have hw := (congrFun (w21 15 (by decide) (by decide)).2.1 2).trans hw
  have he := (congrFun (w21 15 (by decide) (by decide)).2.2 3).trans he
  have h9 := (congrFun (w21 15 (by decide) (by decide)).2.1 9).trans h9
  have h10 := (congrFun (w21 15 (by decide) (by decide)).2.1 10).trans h10
  have h11 := (congrFun (w21 15 (by decide) (by decide)).2.2 11).trans h11
  have z27 := fun j => (congrFun (w21 27 (by decide) (by decide)).2.2 j).trans (z27 j)
  have z28 := fun j => (congrFun (w21 28 (by decide) (by decide)).2.2 j).trans (z28 j)
  have z30 := fun j => (congrFun (w21 30 (by decide) (by decide)).2.2 j).trans (z30 j)
  have hA := clA_K w21 (by decide) (show clA _ from hA)
  have h164 := (congrFun (w21 16 (by decide) (by decide)).2.1 4).trans h164
  have h165 := (congrFun (w21 16 (by decide) (by decide)).2.1 5).trans h165
  have z31 := fun j => (congrFun (w21 31 (by decide) (by decide)).2.1 j).trans (z31 j)
  have z32 := fun j => (congrFun (w21 32 (by decide) (by decide)).2.1 j).trans (z32 j)
  have hS := clS_K w21 (by decide) (show clS _ from hS)
  have ht := fun j hj => (congrFun (w21 35 (by decide) (by decide)).2.1 j).trans (ht j hj)
  have h174 := (congrFun (w21 17 (by decide) (by decide)).2.1 4).trans h174
  have h175 := (congrFun (w21 17 (by decide) (by decide)).2.1 5).trans h175
  have h177 := (congrFun (w21 17 (by decide) (by decide)).2.1 7).trans h177
  have h178 := (congrFun (w21 17 (by decide) (by decide)).2.1 8).trans h178
  refine gi_putr s_H_init_110 h14 rfl rfl rfl rfl ?_
  refine lf_aload_n d_H_init_113 rfl rfl rfl ?_
  refine gi_new s_H_init_114 cD_9 cZ_9 (q := 22) (by (repeat (first | rw [spt_o (by decide)] | rw [(w21 22 (by decide) (by decide)).1] | rw [(w20 22 (by decide) (by decide)).1] | rw [(w19 22 (by decide) (by decide)).1] | rw [(w18 22 (by decide) (by decide)).1] | rw [(w17 22 (by decide) (by decide)).1] | rw [(w16 22 (by decide) (by decide)).1] | rw [(w15 22 (by decide) (by decide)).1] )); exact hf 22 (by decide) (by decide)) ?_
  refine lf_dup d_H_init_117 rfl ?_
  refine lf_aload_n d_H_init_118 rfl rfl rfl ?_
  refine lf_aload_n d_H_init_119 rfl rfl rfl ?_
  refine gi_getr s_H_init_120 rfl rfl ?_
  refine gw_callA s_H_init_123 (r_init (sh := spt (spt sh 14 _) 22 _) (I := izr I 22) (J := jzr J 22) hx rfl (fun a h1 h2 => by (repeat (first | rw [spt_o (by omega)] | rw [(w21 a (by omega) (by omega)).1] | rw [(w20 a (by omega) (by omega)).1] | rw [(w19 a (by omega) (by omega)).1] | rw [(w18 a (by omega) (by omega)).1] | rw [(w17 a (by omega) (by omega)).1] | rw [(w16 a (by omega) (by omega)).1] | rw [(w15 a (by omega) (by omega)).1] )); exact hf a (by omega) (by omega))) (S := [_, _]) rfl rfl rfl rfl gcR_3 (by decide) (by decide +kernel) (Nat.le_of_ble_eq_true rfl) (kc := 13) (ks := 1461) (fun v sh I J w123 hi123 => ?_)
  obtain ⟨rfl, w22, -⟩ := w123
  have h14 := (w22 14 (by decide) (by decide)).1.trans (show _ = some (.inr (2, [.ref 1, .ref 15, .ref 16, .ref 17, .ref 18, .ref 19, .ref 20, .ref 21, .null, .null, .null, .null])) from rfl)
  have hN := clN_K w22 (by decide) (show clN _ from hN)
  have hsc1 := (congrFun (w22 1 (by decide) (by decide)).2.1 12).trans hsc1
  have hn := (congrFun (w22 1 (by decide) (by decide)).2.1 11).trans hn
  have hsc := hsumx (congrFun (w22 1 (by decide) (by decide)).2.1 12) (congrFun (w22 11 (by decide) (by decide)).2.1 0) (congrFun (w22 11 (by decide) (by decide)).2.1 1) hsc
  have hV := clV_K w22 (by decide) (show clV _ n w from hV)
  have hs := (congrFun (w22 15 (by decide) (by decide)).2.1 1).trans hs
  have hw := (congrFun (w22 15 (by decide) (by decide)).2.1 2).trans hw
  have he := (congrFun (w22 15 (by decide) (by decide)).2.2 3).trans he
  have h9 := (congrFun (w22 15 (by decide) (by decide)).2.1 9).trans h9
  have h10 := (congrFun (w22 15 (by decide) (by decide)).2.1 10).trans h10
  have h11 := (congrFun (w22 15 (by decide) (by decide)).2.2 11).trans h11
  have z27 := fun j => (congrFun (w22 27 (by decide) (by decide)).2.2 j).trans (z27 j)
  have z28 := fun j => (congrFun (w22 28 (by decide) (by decide)).2.2 j).trans (z28 j)
  have z30 := fun j => (congrFun (w22 30 (by decide) (by decide)).2.2 j).trans (z30 j)
  have hA := clA_K w22 (by decide) (show clA _ from hA)
  have h164 := (congrFun (w22 16 (by decide) (by decide)).2.1 4).trans h164
  have h165 := (congrFun (w22 16 (by decide) (by decide)).2.1 5).trans h165
  have z31 := fun j => (congrFun (w22 31 (by decide) (by decide)).2.1 j).trans (z31 j)
  have z32 := fun j => (congrFun (w22 32 (by decide) (by decide)).2.1 j).trans (z32 j)
  have hS := clS_K w22 (by decide) (show clS _ from hS)
  have ht := fun j hj => (congrFun (w22 35 (by decide) (by decide)).2.1 j).trans (ht j hj)
  have h174 := (congrFun (w22 17 (by decide) (by decide)).2.1 4).trans h174
  have h175 := (congrFun (w22 17 (by decide) (by decide)).2.1 5).trans h175
  have h177 := (congrFun (w22 17 (by decide) (by decide)).2.1 7).trans h177
  have h178 := (congrFun (w22 17 (by decide) (by decide)).2.1 8).trans h178
  refine gi_putr s_H_init_126 h14 rfl rfl rfl rfl ?_
  refine lf_aload_n d_H_init_129 rfl rfl rfl ?_
  refine gi_new s_H_init_130 cD_10 cZ_10 (q := 23) (by (repeat (first | rw [spt_o (by decide)] | rw [(w22 23 (by decide) (by decide)).1] | rw [(w21 23 (by decide) (by decide)).1] | rw [(w20 23 (by decide) (by decide)).1] | rw [(w19 23 (by decide) (by decide)).1] | rw [(w18 23 (by decide) (by decide)).1] | rw [(w17 23 (by decide) (by decide)).1] | rw [(w16 23 (by decide) (by decide)).1] | rw [(w15 23 (by decide) (by decide)).1] )); exact hf 23 (by decide) (by decide)) ?_
  refine lf_dup d_H_init_133 rfl ?_
  refine lf_aload_n d_H_init_134 rfl rfl rfl ?_
  refine lf_aload_n d_H_init_135 rfl rfl rfl ?_
  refine gi_getr s_H_init_136 rfl rfl ?_
  refine gw_callA s_H_init_139 (g_init (sh := spt (spt sh 14 _) 23 _) (I := izr I 23) (J := jzr J 23) hx rfl (fun a h1 h2 => by (repeat (first | rw [spt_o (by omega)] | rw [(w22 a (by omega) (by omega)).1] | rw [(w21 a (by omega) (by omega)).1] | rw [(w20 a (by omega) (by omega)).1] | rw [(w19 a (by omega) (by omega)).1] | rw [(w18 a (by omega) (by omega)).1] | rw [(w17 a (by omega) (by omega)).1] | rw [(w16 a (by omega) (by omega)).1] | rw [(w15 a (by omega) (by omega)).1] )); exact hf a (by omega) (by omega))) (S := [_, _]) rfl rfl rfl rfl gcR_3 (by decide) (by decide +kernel) (Nat.le_of_ble_eq_true rfl) (kc := 10) (ks := 1296) (fun v sh I J w139 hi139 => ?_)
  obtain ⟨rfl, w23, -⟩ := w139
  have h14 := (w23 14 (by decide) (by decide)).1.trans (show _ = some (.inr (2, [.ref 1, .ref 15, .ref 16, .ref 17, .ref 18, .ref 19, .ref 20, .ref 21, .ref 22, .null, .null, .null])) from rfl)
  have hN := clN_K w23 (by decide) (show clN _ from hN)
  have hsc1 := (congrFun (w23 1 (by decide) (by decide)).2.1 12).trans hsc1
  have hn := (congrFun (w23 1 (by decide) (by decide)).2.1 11).trans hn
  have hsc := hsumx (congrFun (w23 1 (by decide) (by decide)).2.1 12) (congrFun (w23 11 (by decide) (by decide)).2.1 0) (congrFun (w23 11 (by decide) (by decide)).2.1 1) hsc
  have hV := clV_K w23 (by decide) (show clV _ n w from hV)
  have hs := (congrFun (w23 15 (by decide) (by decide)).2.1 1).trans hs
  have hw := (congrFun (w23 15 (by decide) (by decide)).2.1 2).trans hw
  have he := (congrFun (w23 15 (by decide) (by decide)).2.2 3).trans he
  have h9 := (congrFun (w23 15 (by decide) (by decide)).2.1 9).trans h9
  have h10 := (congrFun (w23 15 (by decide) (by decide)).2.1 10).trans h10
  have h11 := (congrFun (w23 15 (by decide) (by decide)).2.2 11).trans h11
  have z27 := fun j => (congrFun (w23 27 (by decide) (by decide)).2.2 j).trans (z27 j)
  have z28 := fun j => (congrFun (w23 28 (by decide) (by decide)).2.2 j).trans (z28 j)
  have z30 := fun j => (congrFun (w23 30 (by decide) (by decide)).2.2 j).trans (z30 j)
  have hA := clA_K w23 (by decide) (show clA _ from hA)
  have h164 := (congrFun (w23 16 (by decide) (by decide)).2.1 4).trans h164
  have h165 := (congrFun (w23 16 (by decide) (by decide)).2.1 5).trans h165
  have z31 := fun j => (congrFun (w23 31 (by decide) (by decide)).2.1 j).trans (z31 j)
  have z32 := fun j => (congrFun (w23 32 (by decide) (by decide)).2.1 j).trans (z32 j)
  have hS := clS_K w23 (by decide) (show clS _ from hS)
  have ht := fun j hj => (congrFun (w23 35 (by decide) (by decide)).2.1 j).trans (ht j hj)
  have h174 := (congrFun (w23 17 (by decide) (by decide)).2.1 4).trans h174
  have h175 := (congrFun (w23 17 (by decide) (by decide)).2.1 5).trans h175
  have h177 := (congrFun (w23 17 (by decide) (by decide)).2.1 7).trans h177
  have h178 := (congrFun (w23 17 (by decide) (by decide)).2.1 8).trans h178
  refine gi_putr s_H_init_142 h14 rfl rfl rfl rfl ?_
  refine lf_aload_n d_H_init_145 rfl rfl rfl ?_
  refine gi_new s_H_init_146 cD_6 cZ_6 (q := 24) (by (repeat (first | rw [spt_o (by decide)] | rw [(w23 24 (by decide) (by decide)).1] | rw [(w22 24 (by decide) (by decide)).1] | rw [(w21 24 (by decide) (by decide)).1] | rw [(w20 24 (by decide) (by decide)).1] | rw [(w19 24 (by decide) (by decide)).1] | rw [(w18 24 (by decide) (by decide)).1] | rw [(w17 24 (by decide) (by decide)).1] | rw [(w16 24 (by decide) (by decide)).1] | rw [(w15 24 (by decide) (by decide)).1] )); exact hf 24 (by decide) (by decide)) ?_
  refine lf_dup d_H_init_149 rfl ?_
  refine lf_aload_n d_H_init_150 rfl rfl rfl ?_
  refine lf_aload_n d_H_init_151 rfl rfl rfl ?_
  refine gi_getr s_H_init_152 rfl rfl ?_
  refine gw_callA s_H_init_155 (t_init (sh := spt (spt sh 14 _) 24 _) (I := izr I 24) (J := jzr J 24) hx rfl (fun a h1 h2 => by (repeat (first | rw [spt_o (by omega)] | rw [(w23 a (by omega) (by omega)).1] | rw [(w22 a (by omega) (by omega)).1] | rw [(w21 a (by omega) (by omega)).1] | rw [(w20 a (by omega) (by omega)).1] | rw [(w19 a (by omega) (by omega)).1] | rw [(w18 a (by omega) (by omega)).1] | rw [(w17 a (by omega) (by omega)).1] | rw [(w16 a (by omega) (by omega)).1] | rw [(w15 a (by omega) (by omega)).1] )); exact hf a (by omega) (by omega)) (show clN _ from hN) (show clV _ n w from hV) hs hsc1 hnis hs7) (S := [_, _]) rfl rfl rfl rfl gcR_3 (by decide) (by decide +kernel) (Nat.le_of_ble_eq_true rfl) (kc := 1) (ks := 256) (fun v sh I J w155 hi155 => ?_)
  obtain ⟨rfl, w24, hT, h242, h243, h2412, h2413, h2414, h2415⟩ := w155
  have h14 := (w24 14 (by decide) (by decide)).1.trans (show _ = some (.inr (2, [.ref 1, .ref 15, .ref 16, .ref 17, .ref 18, .ref 19, .ref 20, .ref 21, .ref 22, .ref 23, .null, .null])) from rfl)
  have hN := clN_K w24 (by decide) (show clN _ from hN)
  have hsc1 := (congrFun (w24 1 (by decide) (by decide)).2.1 12).trans hsc1
  have hn := (congrFun (w24 1 (by decide) (by decide)).2.1 11).trans hn
  have hsc := hsumx (congrFun (w24 1 (by decide) (by decide)).2.1 12) (congrFun (w24 11 (by decide) (by decide)).2.1 0) (congrFun (w24 11 (by decide) (by decide)).2.1 1) hsc
  have hV := clV_K w24 (by decide) (show clV _ n w from hV)
  have hs := (congrFun (w24 15 (by decide) (by decide)).2.1 1).trans hs
  have hw := (congrFun (w24 15 (by decide) (by decide)).2.1 2).trans hw
  have he := (congrFun (w24 15 (by decide) (by decide)).2.2 3).trans he
  have h9 := (congrFun (w24 15 (by decide) (by decide)).2.1 9).trans h9
  have h10 := (congrFun (w24 15 (by decide) (by decide)).2.1 10).trans h10
  have h11 := (congrFun (w24 15 (by decide) (by decide)).2.2 11).trans h11
  have z27 := fun j => (congrFun (w24 27 (by decide) (by decide)).2.2 j).trans (z27 j)
  have z28 := fun j => (congrFun (w24 28 (by decide) (by decide)).2.2 j).trans (z28 j)
  have z30 := fun j => (congrFun (w24 30 (by decide) (by decide)).2.2 j).trans (z30 j)
  have hA := clA_K w24 (by decide) (show clA _ from hA)
  have h164 := (congrFun (w24 16 (by decide) (by decide)).2.1 4).trans h164
  have h165 := (congrFun (w24 16 (by decide) (by decide)).2.1 5).trans h165
  have z31 := fun j => (congrFun (w24 31 (by decide) (by decide)).2.1 j).trans (z31 j)
  have z32 := fun j => (congrFun (w24 32 (by decide) (by decide)).2.1 j).trans (z32 j)
  have hS := clS_K w24 (by decide) (show clS _ from hS)
  have ht := fun j hj => (congrFun (w24 35 (by decide) (by decide)).2.1 j).trans (ht j hj)
  have h174 := (congrFun (w24 17 (by decide) (by decide)).2.1 4).trans h174
  have h175 := (congrFun (w24 17 (by decide) (by decide)).2.1 5).trans h175
  have h177 := (congrFun (w24 17 (by decide) (by decide)).2.1 7).trans h177
  have h178 := (congrFun (w24 17 (by decide) (by decide)).2.1 8).trans h178
  refine gi_putr s_H_init_158 h14 rfl rfl rfl rfl ?_
  refine lf_aload_n d_H_init_161 rfl rfl rfl ?_
  refine lf_sipush d_H_init_162 (v := Int32.ofInt ((256 : Nat) : Int)) (by decide +kernel) ?_
  refine gi_newB_long d_H_init_165 tA_long (m := 256) (B := 256) (q := 25) (by omega) (by decide) (by (repeat (first | rw [spt_o (by decide)] | rw [(w24 25 (by decide) (by decide)).1] | rw [(w23 25 (by decide) (by decide)).1] | rw [(w22 25 (by decide) (by decide)).1] | rw [(w21 25 (by decide) (by decide)).1] | rw [(w20 25 (by decide) (by decide)).1] | rw [(w19 25 (by decide) (by decide)).1] | rw [(w18 25 (by decide) (by decide)).1] | rw [(w17 25 (by decide) (by decide)).1] | rw [(w16 25 (by decide) (by decide)).1] | rw [(w15 25 (by decide) (by decide)).1] )); exact hf 25 (by decide) (by decide)) ?_
  refine gi_putr s_H_init_167 rfl rfl rfl rfl rfl ?_
  refine gw_ret d_H_init_170 rfl ?_
  exact ⟨rfl, (by repeat (first | exact KEEP_rf | refine KEEP_tr w24 ?_ (by omega) (by omega) | refine KEEP_tr w23 ?_ (by omega) (by omega) | refine KEEP_tr w22 ?_ (by omega) (by omega) | refine KEEP_tr w21 ?_ (by omega) (by omega) | refine KEEP_tr w20 ?_ (by omega) (by omega) | refine KEEP_tr w19 ?_ (by omega) (by omega) | refine KEEP_tr w18 ?_ (by omega) (by omega) | refine KEEP_tr w17 ?_ (by omega) (by omega) | refine KEEP_tr w16 ?_ (by omega) (by omega) | refine KEEP_tr w15 ?_ (by omega) (by omega) | refine KEEP_s (by omega) ?_ | refine KEEP_i (by omega) ?_ | refine KEEP_z (by omega) ?_ | refine KEEP_j (by omega) ?_ | refine KEEP_y (by omega) ?_)), (show clN _ from hN), ⟨rfl, rfl⟩, (show clV _ n w from hV), (show clA _ from hA), (show clS _ from hS), (show clT _ (2 ^ s) (2 ^ (s - ni)) from hT), ⟨hs, hw, he, h9, h10, h11⟩, (fun q => ⟨z27 q, z28 q, z30 q⟩), (fun j => ⟨z31 j, z32 j⟩), h164, h165, (fun j hj => ht j hj), h174, h242, h243, h2412, h2413, h2414, h2415⟩
end CO5
