section LA3
variable {X : XT} {L9 : Nat} {xs : Nat → Int32} {sh : sM} {I : mI} {J : mJ}

variable {D : mF} {P : Option Value → mF → Prop} {PX : String → mF → Prop} {kc ks : Nat}

/-- what stands behind the constraint -/
def STq (sh : sM) (I : mI) (J : mJ) (N ni c s no w : Nat) (kd : Nat → Int) (ow r2 r3 dt : Nat → Nat) (ot : Nat → Nat → Nat) (bar : Int) : Prop :=
  LAWq sh I J N ni c s no w kd ow r2 r3 dt ot ∧ VAq sh I N s (2 ^ s) kd r2 r3 ∧ TH I J N ni s w kd ow r2 r3 bar ∧ (∀ ch, ch < 2 ^ ni → lb (J 15 11) ch = kpt N s kd r2 r3 bar ch) ∧ (∀ q, kpt N s kd r2 r3 bar q = kpt N s kd r2 r3 bar (q % 2 ^ ni)) ∧ (0 ≤ I 15 9 ∧ I 15 9 ≤ 1)
theorem TH_K {I1 : mI} {J1 : mJ} {N ni s w : Nat} {kd : Nat → Int} {ow r2 r3 : Nat → Nat} {bar : Int} (e3 : I1 3 = I 3) (e26 : J1 26 = J 26) (e27 : J1 27 = J 27) (e28 : J1 28 = J 28) (e29 : J1 29 = J 29) (e30 : J1 30 = J 30) (h : TH I J N ni s w kd ow r2 r3 bar) : TH I1 J1 N ni s w kd ow r2 r3 bar := by
  unfold TH REC kbit at *
  rw [e3, e26, e27, e28, e29, e30]
  exact h
theorem ST_K {sh1 : sM} {I1 : mI} {J1 : mJ} {N ni c s no w : Nat} {kd : Nat → Int} {ow r2 r3 dt : Nat → Nat} {ot : Nat → Nat → Nat} {bar : Int} (hs : ∀ a, (a ≤ 127 ∨ a = 129 ∨ 200 ≤ a) → sh1 a = sh a) (hf : FR9 I1 I J1 J) (hI : ∀ a, 100 ≤ a → (a ≤ 127 ∨ a = 129 ∨ 200 ≤ a) → I1 a = I a) (h15 : I1 15 9 = I 15 9) (e29 : J1 29 = J 29) (e30 : J1 30 = J 30) (e15 : J1 15 11 = J 15 11) (h : STq sh I J N ni c s no w kd ow r2 r3 dt ot bar) : STq sh1 I1 J1 N ni c s no w kd ow r2 r3 dt ot bar := by
  obtain ⟨h1, ⟨⟨f, g1, g2⟩, g3, g4⟩, h3, h4, h5, h6⟩ := h
  have e3 : I1 3 = I 3 := funext fun q => hf.1 3 q (by decide) (by decide) (by omega) (by decide) (by omega)
  refine ⟨LAW_K (fun a ha => hs a (Or.inl ha)) hf (fun a h8 h9 => hI a h8 (Or.inl h9)) h1, ⟨⟨f, (hs 129 (by omega)).trans g1, g2⟩, fun j hj => (hs _ (by omega)).trans (g3 j hj), fun j k hj hk => by rw [hI (200 + j) (by omega) (by omega)]; exact g4 j k hj hk⟩, TH_K e3 hf.2.1 hf.2.2.1 hf.2.2.2.1 e29 e30 h3, fun ch hc => by rw [e15]; exact h4 ch hc, h5, by rw [h15]; exact h6⟩
theorem hcl9 {N ni s : Nat} {kd : Nat → Int} {ow r2 r3 : Nat → Nat} (hrk : RKq N ni s kd ow r2 r3) (hk3 : ∀ j, j < N → I 3 j = kd j) : ∀ j, j < N → (((bn (hcl N s ni kd r2 r3 j) : Nat) : Int)) = if I 3 j = 99 ∨ ((¬ I 3 j = 105 ∧ ¬ I 3 j = 99) ∧ ((((bn (hcl N s ni kd r2 r3 (r2 j)) : Nat) : Int)) = 1 ∨ (((bn (hcl N s ni kd r2 r3 (pbF kd r2 r3 j)) : Nat) : Int)) = 1)) then 1 else 0 := by
  obtain ⟨ki, kc9, kg, hni1, hnis, hsN, hN23, hs7⟩ := hrk
  intro j hj
  rw [hk3 j hj]
  rcases Nat.lt_or_ge j ni with q | q
  · have := (ki j q).1
    rw [hcl_s (by omega) hsN, decide_eq_false (by omega), if_neg (by omega)]
    rfl
  · rcases Nat.lt_or_ge j s with q1 | q1
    · have := (kc9 j q q1).1
      rw [hcl_s q1 hsN, decide_eq_true q, if_pos (by omega)]
      rfl
    · obtain ⟨g1, g2, g3, g4, -⟩ := kg j q1 hj
      unfold KDq at g1
      rw [hcl_g q1 hj g3 g4]
      cases hcl N s ni kd r2 r3 (r2 j) <;> cases hcl N s ni kd r2 r3 (pbF kd r2 r3 j)
      · rw [if_neg]
        · rfl
        · show ¬ (kd j = 99 ∨ ((¬ kd j = 105 ∧ ¬ kd j = 99) ∧ (((0 : Nat) : Int) = 1 ∨ ((0 : Nat) : Int) = 1)))
          omega
      · rw [if_pos]
        · rfl
        · show (kd j = 99 ∨ ((¬ kd j = 105 ∧ ¬ kd j = 99) ∧ (((0 : Nat) : Int) = 1 ∨ ((1 : Nat) : Int) = 1)))
          omega
      · rw [if_pos]
        · rfl
        · show (kd j = 99 ∨ ((¬ kd j = 105 ∧ ¬ kd j = 99) ∧ (((1 : Nat) : Int) = 1 ∨ ((0 : Nat) : Int) = 1)))
          omega
      · rw [if_pos]
        · rfl
        · show (kd j = 99 ∨ ((¬ kd j = 105 ∧ ¬ kd j = 99) ∧ (((1 : Nat) : Int) = 1 ∨ ((1 : Nat) : Int) = 1)))
          omega
theorem sumN_cg {f g : Nat → Nat} : ∀ {w : Nat}, (∀ u, u < w → f u = g u) → sumN f w = sumN g w := by
  intro w
  induction w with
  | zero => intro _; rfl
  | succ w ih =>
    intro h
    show sumN f w + f w = sumN g w + g w
    rw [ih (fun u hu => h u (by omega)), h w (by omega)]
theorem law_e (hx : HX X L9 xs) {N ni c s no w : Nat} {kd : Nat → Int} {ow r2 r3 dt : Nat → Nat} {ot : Nat → Nat → Nat} (hL : LAWq sh I J N ni c s no w kd ow r2 r3 dt ot) (hin : INq I J s w) (h128 : sh 128 = some (.inl (.boolean, N, 0, fun _ => none))) (hh : ∀ j, j < N → I 128 j = ((bn (hcl N s ni kd r2 r3 j) : Nat) : Int)) (hva : VAq sh I N s (2 ^ s) kd r2 r3) {b : Nat} (hb9 : b < N) (k522 : ∀ (ib : Bool) (bar : Int) (I1 : mI) (J1 : mJ), bar = (if ib then (b : Int) else -1) → STq sh I1 J1 N ni c s no w kd ow r2 r3 dt ot bar → (I1 17 4 = 0 ∧ I1 24 12 = 0 ∧ I1 24 13 = -1) → LXf TT cl6 X mi_W_law (40 + 11) (1000 + 200 * 11) D P PX kc ks 522 [(14, .int (Int32.ofInt ((bn ib : Nat) : Int))), (12, .ref 129), (11, .ref 128), (10, .int (Int32.ofInt ((b : Nat) : Int))), (9, .int (Int32.ofInt ((2 ^ s : Nat) : Int))), (1, .ref 0), (0, .retAddr 1), (2, .int (Int32.ofInt ((1 : Nat) : Int))), (3, .int (Int32.ofInt ((ni : Nat) : Int))), (4, .int (Int32.ofInt ((c : Nat) : Int))), (5, .ref 100), (6, .int (Int32.ofInt ((s : Nat) : Int))), (7, .ref 124), (8, .ref 125)] [] (hp sh I1 J1)) : LXf TT cl6 X mi_W_law (40 + 11) (1000 + 200 * 11) D P PX (kc + 3) (ks + 18) 448 [(13, .int (Int32.ofInt ((cb (fun q => vlw N s kd r2 r3 q b) (2 ^ s) : Nat) : Int))), (12, .ref 129), (11, .ref 128), (10, .int (Int32.ofInt ((b : Nat) : Int))), (9, .int (Int32.ofInt ((2 ^ s : Nat) : Int))), (1, .ref 0), (0, .retAddr 1), (2, .int (Int32.ofInt ((1 : Nat) : Int))), (3, .int (Int32.ofInt ((ni : Nat) : Int))), (4, .int (Int32.ofInt ((c : Nat) : Int))), (5, .ref 100), (6, .int (Int32.ofInt ((s : Nat) : Int))), (7, .ref 124), (8, .ref 125)] [] (hp sh I J) := by
  obtain ⟨hrk, hrw, hSH, hC, hk3, h124, h125, h126, hd5, ho5, hcs, hsw⟩ := id hL
  obtain ⟨ki, kc9, kg, hni1, hnis, hsN, hN23, hs7⟩ := id hrk
  obtain ⟨⟨f, hs0, hf⟩, hr, hR⟩ := id hrw
  have hM := hSH.1
  have hp7 := pow2_7 hs7
  have hp0 := Nat.two_pow_pos s
  obtain ⟨⟨fv, hv1, hv2⟩, hv3, hv4⟩ := id hva
  obtain ⟨h13, ⟨h159, h1511, h29, h30⟩, h174, h2412, h2413⟩ := id hin
  have hth := TH_0 (I := I) (J := J) hrk hk3 hC.2.2.2.2.1 hsw h29 h30
  have hke := keep_eq hth h29 hb9
  have h9 := hcl9 (ow := ow) hrk hk3
  have hkl := cb_le (p := fun q => vlw N s kd r2 r3 q b) (2 ^ s)
  have hni8 : 2 ^ ni ≤ 8 := Nat.pow_le_pow_right (n := 2) (by decide) hcs.2.1
  cases e9 : hcl N s ni kd r2 r3 b with
  | true =>
    have v9 : bn (hcl N s ni kd r2 r3 b) = 1 := by rw [e9]; rfl
    refine lf_aload d_W_law_448 rfl rfl ?_
    refine lf_iload d_W_law_450 rfl ?_
    refine gi_zaloadN d_W_law_452 h128 (by omega) ?_
    refine gi_top (hh b hb9) ?_
    refine gi_if_ne d_W_law_453 (tgt := 465) (by decide) (by omega) (fun hb453 => ?_) (fun hb453 => False.elim (by omega))
    refine lf_iconst d_W_law_465 (v := Int32.ofInt ((0 : Nat) : Int)) rfl ?_
    refine lf_istore d_W_law_466 (by decide +kernel) (L2 := [(14, _), (13, _), (12, _), (11, _), (10, _), (9, _), (1, _), (0, _), (2, _), (3, _), (4, _), (5, _), (6, _), (7, _), (8, _)]) rfl ?_
    refine lf_iload_n d_W_law_468 rfl rfl ?_
    refine lf_aload_n d_W_law_469 rfl rfl rfl ?_
    refine lf_iconst d_W_law_470 (v := Int32.ofInt ((0 : Nat) : Int)) rfl ?_
    refine lf_iload d_W_law_471 rfl ?_
    refine gw_callX s_W_law_473 (w_value_0 hx hM (EVt_x (m_value_t1 hx hSH hC (k := 0) (c := 2 ^ s) (by omega) (Nat.le_refl _) (by omega))) (lev := 10) (by decide)) (S := [_]) rfl rfl gcR_1 (by decide) (by decide +kernel) (Nat.le_of_ble_eq_true rfl) (fun I473 J473 w473 => ?_)
    obtain ⟨hi9, hj9⟩ := w473
    rw [hi9, hj9]
    clear hi9 hj9
    refine gi_pushi s_W_law_476 ?_
    refine gi_icmp_ne d_W_law_478 (tgt := 519) (by decide) (by omega) (fun hb478 => False.elim (by omega)) (fun hb478 => ?_)
    refine lf_aload_n d_W_law_481 rfl rfl rfl ?_
    refine lf_aload d_W_law_482 rfl rfl ?_
    refine gi_len d_W_law_484 hs0 ?_
    refine lf_iconst d_W_law_485 (v := Int32.ofInt ((0 : Nat) : Int)) rfl ?_
    refine gw_callX s_W_law_486 (w_value_1 hx hM (EVt_x (m_value_t2 hx hSH hC (k := N) (c := 0) (Nat.le_refl _) (by omega))) (lev := 10) (by decide)) (S := [_]) rfl rfl gcR_1 (by decide) (by decide +kernel) (Nat.le_of_ble_eq_true rfl) (fun I486 J486 w486 => ?_)
    obtain ⟨hi9, hj9⟩ := w486
    rw [hi9, hj9]
    clear hi9 hj9
    refine gi_pushi s_W_law_489 ?_
    refine gi_icmp_ne d_W_law_491 (tgt := 519) (by decide) (by omega) (fun hb491 => False.elim (by omega)) (fun hb491 => ?_)
    refine lf_aload_n d_W_law_494 rfl rfl rfl ?_
    refine lf_iload d_W_law_495 rfl ?_
    refine gw_callX s_W_law_497 (w_constrain_2 hx hM (m_constrain_t hx hSH hC h13 (k := b) hb9 (hc := fun j => ((bn (hcl N s ni kd r2 r3 j) : Nat) : Int)) h9 (by left; show ((bn (hcl N s ni kd r2 r3 b) : Nat) : Int) = 1; omega)) (lev := 10) (by decide)) (S := [_]) rfl rfl gcR_1 (by decide) (by decide +kernel) (Nat.le_of_ble_eq_true rfl) (fun I497 J497 w497 => ?_)
    obtain ⟨q1, q2⟩ := w497
    rw [q2]
    refine lf_iload d_W_law_500 rfl ?_
    refine gi_if_eq d_W_law_502 (tgt := 510) (by decide) (by omega) (fun hb502 => ?_) (fun hb502 => False.elim (by omega))
    refine gi_pushi s_W_law_510 ?_
    refine gi_icmp_ne d_W_law_512 (tgt := 519) (by decide) (by omega) (fun hb512 => False.elim (by omega)) (fun hb512 => ?_)
    refine lf_iconst d_W_law_515 (v := Int32.ofInt ((1 : Nat) : Int)) rfl ?_
    refine lf_goto d_W_law_516 (tgt := 520) (by decide) ?_
    refine gi_iandN (a := 1) (b := 1) d_W_law_520 ?_
    refine gi_top rfl ?_
    refine lf_istore_n d_W_law_521 rfl (by decide +kernel) (L2 := [(2, _), (14, _), (13, _), (12, _), (11, _), (10, _), (9, _), (1, _), (0, _), (3, _), (4, _), (5, _), (6, _), (7, _), (8, _)]) rfl ?_
    refine lf_sub [1, 3, 4, 5, 6, 7, 8, 0, 9, 10, 11, 12, 13, 14] rfl ?_
    refine k522 false (-1) I497 J rfl ⟨LAW_K (fun a _ => rfl) ⟨fun a q ha h13 _ _ _ => congrFun (q1 a h13) q, rfl, rfl, rfl, rfl⟩ (fun a h8 _ => q1 a (by omega)) hL, ⟨⟨fv, hv1, hv2⟩, hv3, fun j k hj hk => by rw [q1 (200 + j) (by omega)]; exact hv4 j k hj hk⟩, TH_K (q1 3 (by decide)) rfl rfl rfl rfl rfl hth, fun ch hc => ?_, fun q => ?_, ?_⟩ ⟨(congrFun (q1 17 (by decide)) 4).trans h174, (congrFun (q1 24 (by decide)) 12).trans h2412, (congrFun (q1 24 (by decide)) 13).trans h2413⟩
    · rw [h1511]
      exact lb_m1 ch (by omega)
    · rfl
    · rw [q1 15 (by decide), h159]; decide
  | false =>
    have v9 : bn (hcl N s ni kd r2 r3 b) = 0 := by rw [e9]; rfl
    by_cases hkz : cb (fun q => vlw N s kd r2 r3 q b) (2 ^ s) = 0
    · refine lf_aload d_W_law_448 rfl rfl ?_
      refine lf_iload d_W_law_450 rfl ?_
      refine gi_zaloadN d_W_law_452 h128 (by omega) ?_
      refine gi_top (hh b hb9) ?_
      refine gi_if_ne d_W_law_453 (tgt := 465) (by decide) (by omega) (fun hb453 => False.elim (by omega)) (fun hb453 => ?_)
      refine lf_iload d_W_law_456 rfl ?_
      refine gi_if_le d_W_law_458 (tgt := 465) (by decide) (by omega) (fun hb458 => ?_) (fun hb458 => False.elim (by omega))
      refine lf_iconst d_W_law_465 (v := Int32.ofInt ((0 : Nat) : Int)) rfl ?_
      refine lf_istore d_W_law_466 (by decide +kernel) (L2 := [(14, _), (13, _), (12, _), (11, _), (10, _), (9, _), (1, _), (0, _), (2, _), (3, _), (4, _), (5, _), (6, _), (7, _), (8, _)]) rfl ?_
      refine lf_iload_n d_W_law_468 rfl rfl ?_
      refine lf_aload_n d_W_law_469 rfl rfl rfl ?_
      refine lf_iconst d_W_law_470 (v := Int32.ofInt ((0 : Nat) : Int)) rfl ?_
      refine lf_iload d_W_law_471 rfl ?_
      refine gw_callX s_W_law_473 (w_value_0 hx hM (EVt_x (m_value_t1 hx hSH hC (k := 0) (c := 2 ^ s) (by omega) (Nat.le_refl _) (by omega))) (lev := 10) (by decide)) (S := [_]) rfl rfl gcR_1 (by decide) (by decide +kernel) (Nat.le_of_ble_eq_true rfl) (fun I473 J473 w473 => ?_)
      obtain ⟨hi9, hj9⟩ := w473
      rw [hi9, hj9]
      clear hi9 hj9
      refine gi_pushi s_W_law_476 ?_
      refine gi_icmp_ne d_W_law_478 (tgt := 519) (by decide) (by omega) (fun hb478 => False.elim (by omega)) (fun hb478 => ?_)
      refine lf_aload_n d_W_law_481 rfl rfl rfl ?_
      refine lf_aload d_W_law_482 rfl rfl ?_
      refine gi_len d_W_law_484 hs0 ?_
      refine lf_iconst d_W_law_485 (v := Int32.ofInt ((0 : Nat) : Int)) rfl ?_
      refine gw_callX s_W_law_486 (w_value_1 hx hM (EVt_x (m_value_t2 hx hSH hC (k := N) (c := 0) (Nat.le_refl _) (by omega))) (lev := 10) (by decide)) (S := [_]) rfl rfl gcR_1 (by decide) (by decide +kernel) (Nat.le_of_ble_eq_true rfl) (fun I486 J486 w486 => ?_)
      obtain ⟨hi9, hj9⟩ := w486
      rw [hi9, hj9]
      clear hi9 hj9
      refine gi_pushi s_W_law_489 ?_
      refine gi_icmp_ne d_W_law_491 (tgt := 519) (by decide) (by omega) (fun hb491 => False.elim (by omega)) (fun hb491 => ?_)
      refine lf_aload_n d_W_law_494 rfl rfl rfl ?_
      refine lf_iload d_W_law_495 rfl ?_
      refine gw_callX s_W_law_497 (w_constrain_2 hx hM (m_constrain_t hx hSH hC h13 (k := b) hb9 (hc := fun j => ((bn (hcl N s ni kd r2 r3 j) : Nat) : Int)) h9 (by right; rw [hke]; exact hkz)) (lev := 10) (by decide)) (S := [_]) rfl rfl gcR_1 (by decide) (by decide +kernel) (Nat.le_of_ble_eq_true rfl) (fun I497 J497 w497 => ?_)
      obtain ⟨q1, q2⟩ := w497
      rw [q2]
      refine lf_iload d_W_law_500 rfl ?_
      refine gi_if_eq d_W_law_502 (tgt := 510) (by decide) (by omega) (fun hb502 => ?_) (fun hb502 => False.elim (by omega))
      refine gi_pushi s_W_law_510 ?_
      refine gi_icmp_ne d_W_law_512 (tgt := 519) (by decide) (by omega) (fun hb512 => False.elim (by omega)) (fun hb512 => ?_)
      refine lf_iconst d_W_law_515 (v := Int32.ofInt ((1 : Nat) : Int)) rfl ?_
      refine lf_goto d_W_law_516 (tgt := 520) (by decide) ?_
      refine gi_iandN (a := 1) (b := 1) d_W_law_520 ?_
      refine gi_top rfl ?_
      refine lf_istore_n d_W_law_521 rfl (by decide +kernel) (L2 := [(2, _), (14, _), (13, _), (12, _), (11, _), (10, _), (9, _), (1, _), (0, _), (3, _), (4, _), (5, _), (6, _), (7, _), (8, _)]) rfl ?_
      refine lf_sub [1, 3, 4, 5, 6, 7, 8, 0, 9, 10, 11, 12, 13, 14] rfl ?_
      refine k522 false (-1) I497 J rfl ⟨LAW_K (fun a _ => rfl) ⟨fun a q ha h13 _ _ _ => congrFun (q1 a h13) q, rfl, rfl, rfl, rfl⟩ (fun a h8 _ => q1 a (by omega)) hL, ⟨⟨fv, hv1, hv2⟩, hv3, fun j k hj hk => by rw [q1 (200 + j) (by omega)]; exact hv4 j k hj hk⟩, TH_K (q1 3 (by decide)) rfl rfl rfl rfl rfl hth, fun ch hc => ?_, fun q => ?_, ?_⟩ ⟨(congrFun (q1 17 (by decide)) 4).trans h174, (congrFun (q1 24 (by decide)) 12).trans h2412, (congrFun (q1 24 (by decide)) 13).trans h2413⟩
      · rw [h1511]
        exact lb_m1 ch (by omega)
      · rfl
      · rw [q1 15 (by decide), h159]; decide
    · refine lf_aload d_W_law_448 rfl rfl ?_
      refine lf_iload d_W_law_450 rfl ?_
      refine gi_zaloadN d_W_law_452 h128 (by omega) ?_
      refine gi_top (hh b hb9) ?_
      refine gi_if_ne d_W_law_453 (tgt := 465) (by decide) (by omega) (fun hb453 => False.elim (by omega)) (fun hb453 => ?_)
      refine lf_iload d_W_law_456 rfl ?_
      refine gi_if_le d_W_law_458 (tgt := 465) (by decide) (by omega) (fun hb458 => False.elim (by omega)) (fun hb458 => ?_)
      refine lf_iconst d_W_law_461 (v := Int32.ofInt ((1 : Nat) : Int)) rfl ?_
      refine lf_goto d_W_law_462 (tgt := 466) (by decide) ?_
      refine lf_istore d_W_law_466 (by decide +kernel) (L2 := [(14, _), (13, _), (12, _), (11, _), (10, _), (9, _), (1, _), (0, _), (2, _), (3, _), (4, _), (5, _), (6, _), (7, _), (8, _)]) rfl ?_
      refine lf_iload_n d_W_law_468 rfl rfl ?_
      refine lf_aload_n d_W_law_469 rfl rfl rfl ?_
      refine lf_iconst d_W_law_470 (v := Int32.ofInt ((0 : Nat) : Int)) rfl ?_
      refine lf_iload d_W_law_471 rfl ?_
      refine gw_callX s_W_law_473 (w_value_0 hx hM (EVt_x (m_value_t1 hx hSH hC (k := 0) (c := 2 ^ s) (by omega) (Nat.le_refl _) (by omega))) (lev := 10) (by decide)) (S := [_]) rfl rfl gcR_1 (by decide) (by decide +kernel) (Nat.le_of_ble_eq_true rfl) (fun I473 J473 w473 => ?_)
      obtain ⟨hi9, hj9⟩ := w473
      rw [hi9, hj9]
      clear hi9 hj9
      refine gi_pushi s_W_law_476 ?_
      refine gi_icmp_ne d_W_law_478 (tgt := 519) (by decide) (by omega) (fun hb478 => False.elim (by omega)) (fun hb478 => ?_)
      refine lf_aload_n d_W_law_481 rfl rfl rfl ?_
      refine lf_aload d_W_law_482 rfl rfl ?_
      refine gi_len d_W_law_484 hs0 ?_
      refine lf_iconst d_W_law_485 (v := Int32.ofInt ((0 : Nat) : Int)) rfl ?_
      refine gw_callX s_W_law_486 (w_value_1 hx hM (EVt_x (m_value_t2 hx hSH hC (k := N) (c := 0) (Nat.le_refl _) (by omega))) (lev := 10) (by decide)) (S := [_]) rfl rfl gcR_1 (by decide) (by decide +kernel) (Nat.le_of_ble_eq_true rfl) (fun I486 J486 w486 => ?_)
      obtain ⟨hi9, hj9⟩ := w486
      rw [hi9, hj9]
      clear hi9 hj9
      refine gi_pushi s_W_law_489 ?_
      refine gi_icmp_ne d_W_law_491 (tgt := 519) (by decide) (by omega) (fun hb491 => False.elim (by omega)) (fun hb491 => ?_)
      refine lf_aload_n d_W_law_494 rfl rfl rfl ?_
      refine lf_iload d_W_law_495 rfl ?_
      refine gw_callI s_W_law_497 (wI_constrain hx hM (m_constrain hx hSH hC h13 (k := b) hb9 (hc := fun j => ((bn (hcl N s ni kd r2 r3 j) : Nat) : Int)) h9 (by rw [e9]; decide) (by rw [hke]; omega) h159 (by omega)) (lev := 10) (by decide)) (S := [_]) rfl rfl gcR_1 (by decide) (by decide +kernel) (Nat.le_of_ble_eq_true rfl) (fun r497 I497 J497 w497 => ?_)
      obtain ⟨hr9, q1, q2, q3, q4, q5, q6⟩ := w497
      have hrs : r497 = ((cb (fun q => vlw N s kd r2 r3 q b) (2 ^ s) : Nat) : Int) := by
        rw [hr9, ← hke]
        congr 1
        refine sumN_cg (fun u hu => ?_)
        rw [(q5 u hu).1, and_id]
      rw [hrs]
      refine lf_iload d_W_law_500 rfl ?_
      refine gi_if_eq d_W_law_502 (tgt := 510) (by decide) (by omega) (fun hb502 => False.elim (by omega)) (fun hb502 => ?_)
      refine lf_iload d_W_law_505 rfl ?_
      refine lf_goto d_W_law_507 (tgt := 512) (by decide) ?_
      refine gi_icmp_ne d_W_law_512 (tgt := 519) (by decide) (by omega) (fun hb512 => False.elim (by omega)) (fun hb512 => ?_)
      refine lf_iconst d_W_law_515 (v := Int32.ofInt ((1 : Nat) : Int)) rfl ?_
      refine lf_goto d_W_law_516 (tgt := 520) (by decide) ?_
      refine gi_iandN (a := 1) (b := 1) d_W_law_520 ?_
      refine gi_top rfl ?_
      refine lf_istore_n d_W_law_521 rfl (by decide +kernel) (L2 := [(2, _), (14, _), (13, _), (12, _), (11, _), (10, _), (9, _), (1, _), (0, _), (3, _), (4, _), (5, _), (6, _), (7, _), (8, _)]) rfl ?_
      refine lf_sub [1, 3, 4, 5, 6, 7, 8, 0, 9, 10, 11, 12, 13, 14] rfl ?_
      have e3 : I497 3 = I 3 := funext fun q => q3 3 q (by decide) (by omega)
      have hth1 : TH I497 J497 N ni s w kd ow r2 r3 (b : Int) := TH_1 hth h29 h30 hb9 (fun j hj => by rw [e3]; exact hk3 j hj) (fun j hj => by
        have := hC.2.2.2.2.1 j hj
        unfold REC at *
        rw [e3, q4 26 (by decide) (by decide) (by decide), q4 27 (by decide) (by decide) (by decide), q4 28 (by decide) (by decide) (by decide)]
        exact this) (q4 26 (by decide) (by decide) (by decide)) (q4 27 (by decide) (by decide) (by decide)) q5
      refine lf_room (kc1 := kc) (ks1 := ks) (by omega) (by omega) ?_
      refine k522 true (b : Int) I497 J497 rfl ⟨LAW_K (fun a _ => rfl) q1 (fun a h8 _ => funext fun q => q3 a q (by omega) (by omega)) hL, ⟨⟨fv, hv1, hv2⟩, hv3, fun j k hj hk => by rw [q3 (200 + j) k (by omega) (by omega)]; exact hv4 j k hj hk⟩, hth1, fun ch hc => ?_, kpt_m hrk (Or.inr ⟨by omega, by omega, by rw [Int.toNat_natCast]; exact e9⟩), ?_⟩ ⟨(q3 17 4 (by decide) (by omega)).trans h174, (q3 24 12 (by decide) (by omega)).trans h2412, (q3 24 13 (by decide) (by omega)).trans h2413⟩
      · have hcs9 : ch < 2 ^ s := Nat.lt_of_lt_of_le hc (Nat.pow_le_pow_right (by decide) hnis)
        rw [q6 ch (by omega), decide_eq_true hc, Bool.true_and]
        exact hth1.2.2.2.2.2.1 ch hcs9
      · rw [q2]; decide
theorem law_f_l (hx : HX X L9 xs) {N ni c s no w : Nat} {kd : Nat → Int} {ow r2 r3 dt : Nat → Nat} {ot : Nat → Nat → Nat} {b : Nat} (hb9 : b < N) {ib : Bool} {bar : Int} (hbar : bar = (if ib then (b : Int) else -1)) (hst : STq sh I J N ni c s no w kd ow r2 r3 dt ot bar) (h130 : sh 130 = some (.inl (.boolean, 2 ^ s, 0, fun _ => none))) (k627 : ∀ (I1 : mI) (J1 : mJ), (∀ a, ¬ a = 130 → ¬ a = 17 → I1 a = I a) ∧ (∀ j, j < 2 ^ s → I1 130 j = ((bn (kpt N s kd r2 r3 bar j) : Nat) : Int)) ∧ (∀ q, ¬ q = 4 → I1 17 q = I 17 q) ∧ (∃ p : Nat, p ≤ 64 ∧ I1 17 4 = (p : Int)) ∧ (∀ a, ¬ a = 34 → J1 a = J a) → LXf TT cl6 X mi_W_law (40 + 11) (1000 + 200 * 11) D P PX kc ks 627 [(15, .ref 130), (14, .int (Int32.ofInt ((bn ib : Nat) : Int))), (12, .ref 129), (11, .ref 128), (10, .int (Int32.ofInt ((b : Nat) : Int))), (9, .int (Int32.ofInt ((2 ^ s : Nat) : Int))), (1, .ref 0), (0, .retAddr 1), (2, .int (Int32.ofInt ((1 : Nat) : Int))), (3, .int (Int32.ofInt ((ni : Nat) : Int))), (4, .int (Int32.ofInt ((c : Nat) : Int))), (5, .ref 100), (6, .int (Int32.ofInt ((s : Nat) : Int))), (7, .ref 124), (8, .ref 125)] [] (hp sh I1 J1)) : ∀ (d ch : Nat) (I1 : mI) (J1 : mJ), ch + d = 2 ^ s → (∀ a, ¬ a = 130 → ¬ a = 17 → I1 a = I a) ∧ (∀ j, j < ch → I1 130 j = ((bn (kpt N s kd r2 r3 bar j) : Nat) : Int)) ∧ (∀ q, ¬ q = 4 → I1 17 q = I 17 q) ∧ (∃ p : Nat, p ≤ 64 ∧ I1 17 4 = (p : Int)) ∧ (∀ a, ¬ a = 34 → J1 a = J a) → LXf TT cl6 X mi_W_law (40 + 11) (1000 + 200 * 11) D P PX (d + kc) (6 * d + ks) 531 [(16, .int (Int32.ofInt ((ch : Nat) : Int))), (15, .ref 130), (14, .int (Int32.ofInt ((bn ib : Nat) : Int))), (12, .ref 129), (11, .ref 128), (10, .int (Int32.ofInt ((b : Nat) : Int))), (9, .int (Int32.ofInt ((2 ^ s : Nat) : Int))), (1, .ref 0), (0, .retAddr 1), (2, .int (Int32.ofInt ((1 : Nat) : Int))), (3, .int (Int32.ofInt ((ni : Nat) : Int))), (4, .int (Int32.ofInt ((c : Nat) : Int))), (5, .ref 100), (6, .int (Int32.ofInt ((s : Nat) : Int))), (7, .ref 124), (8, .ref 125)] [] (hp sh I1 J1) := by
  intro d
  induction d with
  | zero =>
    intro ch I1 J1 hd hb
    have hch : ch = 2 ^ s := by omega
    refine lf_room (kc1 := kc) (ks1 := ks) (by omega) (by omega) ?_
    refine lf_iload d_W_law_531 rfl ?_
    refine lf_iload d_W_law_533 rfl ?_
    refine gi_icmp_ge d_W_law_535 (tgt := 627) (by decide) (by have := pow2_7 (s := s) hst.1.1.2.2.2.2.2.2.2; omega) (fun hb535 => ?_) (fun hb535 => False.elim (by omega))
    refine lf_sub [1, 2, 3, 4, 5, 6, 7, 8, 9, 10, 11, 12, 13, 14, 15] rfl ?_
    subst hch
    exact k627 I1 J1 hb
  | succ d ih =>
    intro ch I1 J1 hd hb
    have hch : ch < 2 ^ s := by omega
    obtain ⟨p1, p2, p3, ⟨p, hp64, hp4⟩, p5⟩ := id hb
    have hst1 : STq sh I1 J1 N ni c s no w kd ow r2 r3 dt ot bar := ST_K (fun a _ => rfl) ⟨fun a q ha _ _ h17 _ => congrFun (p1 a (by omega) h17) q, p5 26 (by decide), p5 27 (by decide), p5 28 (by decide), congrFun (p5 15 (by decide)) 3⟩ (fun a h8 h9 => p1 a (by omega) (by omega)) (congrFun (p1 15 (by decide) (by decide)) 9) (p5 29 (by decide)) (p5 30 (by decide)) (congrFun (p5 15 (by decide)) 11) hst
    have hL1 := hst1.1
    obtain ⟨hrk, hrw, hSH, hC, hk3, h124, h125, h126, hd5, ho5, hcs, hsw⟩ := id hL1
    obtain ⟨ki, kc9, kg, hni1, hnis, hsN, hN23, hs7⟩ := id hrk
    obtain ⟨⟨f, hs0, hf⟩, hr, hR⟩ := id hrw
    have hM := hSH.1
    have hp7 := pow2_7 hs7
    have hp0 := Nat.two_pow_pos s
    obtain ⟨⟨fv, hv1, hv2⟩, hv3, hv4⟩ := hst1.2.1
    have hth := hst1.2.2.1
    have hkb := hth.2.2.2.2.2.1
    have hkc := hkb ch hch
    have nxt9 : ∀ (I2 : mI) (J2 : mJ), (∀ a, ¬ a = 130 → ¬ a = 17 → I2 a = I1 a) → (∀ j, ¬ j = ch → I2 130 j = I1 130 j) → I2 130 ch = ((bn (kpt N s kd r2 r3 bar ch) : Nat) : Int) → (∀ q, ¬ q = 4 → I2 17 q = I1 17 q) → (∃ p : Nat, p ≤ 64 ∧ I2 17 4 = (p : Int)) → (∀ a, ¬ a = 34 → J2 a = J1 a) → LXf TT cl6 X mi_W_law (40 + 11) (1000 + 200 * 11) D P PX (d + kc) (6 * d + ks) 531 [(16, .int (Int32.ofInt ((ch + 1 : Nat) : Int))), (15, .ref 130), (14, .int (Int32.ofInt ((bn ib : Nat) : Int))), (12, .ref 129), (11, .ref 128), (10, .int (Int32.ofInt ((b : Nat) : Int))), (9, .int (Int32.ofInt ((2 ^ s : Nat) : Int))), (1, .ref 0), (0, .retAddr 1), (2, .int (Int32.ofInt ((1 : Nat) : Int))), (3, .int (Int32.ofInt ((ni : Nat) : Int))), (4, .int (Int32.ofInt ((c : Nat) : Int))), (5, .ref 100), (6, .int (Int32.ofInt ((s : Nat) : Int))), (7, .ref 124), (8, .ref 125)] [] (hp sh I2 J2) := by
      intro I2 J2 e1 e2 e3 e4 e5 e6
      refine ih (ch + 1) I2 J2 (by omega) ⟨fun a h1 h2 => (e1 a h1 h2).trans (p1 a h1 h2), fun j hj => ?_, fun q hq => (e4 q hq).trans (p3 q hq), e5, fun a ha => (e6 a ha).trans (p5 a ha)⟩
      by_cases z : j = ch
      · rw [z]; exact e3
      · rw [e2 j z]; exact p2 j (by omega)
    cases ib with
    | false =>
      have hb1 : bar < 0 := by rw [hbar]; show (-1 : Int) < 0; decide
      have hbi : bn false = 0 := rfl
      have hkt : kpt N s kd r2 r3 bar ch = true := by unfold kpt; rw [decide_eq_true hb1]; rfl
      by_cases hpf : p = 64
      · refine lf_room (kc1 := (d + kc) + 1) (ks1 := (6 * d + ks) + 6) (by omega) (by omega) ?_
        refine lf_iload d_W_law_531 rfl ?_
        refine lf_iload d_W_law_533 rfl ?_
        refine gi_icmp_ge d_W_law_535 (tgt := 627) (by decide) (by omega) (fun hb535 => False.elim (by omega)) (fun hb535 => ?_)
        refine lf_aload d_W_law_538 rfl rfl ?_
        refine lf_iload d_W_law_540 rfl ?_
        refine lf_iload d_W_law_542 rfl ?_
        refine gi_if_eq d_W_law_544 (tgt := 559) (by decide) (by omega) (fun hb544 => ?_) (fun hb544 => False.elim (by omega))
        refine lf_iconst d_W_law_559 (v := Int32.ofInt ((1 : Nat) : Int)) rfl ?_
        refine lf_goto d_W_law_560 (tgt := 564) (by decide) ?_
        refine gi_zastoreN d_W_law_564 h130 (by omega) (by omega) ?_
        have hst2 : STq sh (ipt I1 130 ch ((1 : Nat) : Int)) J1 N ni c s no w kd ow r2 r3 dt ot bar := ST_K (fun a _ => rfl) ⟨fun a q ha _ _ _ _ => congrFun (ipt_o (by omega)) q, rfl, rfl, rfl, rfl⟩ (fun a h8 h9 => ipt_o (by omega)) (congrFun (ipt_o (by decide)) 9) rfl rfl rfl hst1
        have hSH2 := hst2.1.2.2.1
        have hC2 := hst2.1.2.2.2.1
        refine lf_iload_n d_W_law_565 rfl rfl ?_
        refine lf_aload_n d_W_law_566 rfl rfl rfl ?_
        refine lf_iload d_W_law_567 rfl ?_
        refine gw_callX s_W_law_569 (w_pattern_3 hx hM (EVt_x (m_pattern_t2 hx hSH2 hC2 (c := ch) hch (hkc.trans hkt) (by rw [ipt_o (by decide), hp4, hpf]))) (lev := 10) (by decide)) (S := [_]) rfl rfl gcR_1 (by decide) (by decide +kernel) (Nat.le_of_ble_eq_true rfl) (fun I569 J569 w569 => ?_)
        obtain ⟨hi9, hj9⟩ := w569
        rw [hi9, hj9]
        clear hi9 hj9
        have hst3 := hst2
        refine gi_if_lt d_W_law_572 (tgt := 579) (by decide) (by omega) (fun hb572 => ?_) (fun hb572 => False.elim (by omega))
        refine lf_iconst d_W_law_579 (v := Int32.ofInt ((0 : Nat) : Int)) rfl ?_
        refine lf_aload d_W_law_580 rfl rfl ?_
        refine lf_iload d_W_law_582 rfl ?_
        refine gi_zaloadN d_W_law_584 h130 (by omega) ?_
        refine gi_top ipt_e ?_
        refine gi_if_eq d_W_law_585 (tgt := 601) (by decide) (by omega) (fun hb585 => False.elim (by omega)) (fun hb585 => ?_)
        refine lf_aload_n d_W_law_588 rfl rfl rfl ?_
        refine gw_callP s_W_law_589 (m_patterns hx hst3.1.2.2.1 hst3.1.2.2.2.1) (S := [_, _]) rfl rfl (gcR_2 (c_0 hM)) (by decide) (by decide +kernel) (Nat.le_of_ble_eq_true rfl) ?_
        refine gi_top ((congrFun (ipt_o (by decide)) 4).trans hp4) ?_
        refine lf_bipush d_W_law_592 (v := Int32.ofInt ((64 : Nat) : Int)) (by decide +kernel) ?_
        refine gi_icmp_gt d_W_law_594 (tgt := 601) (by decide) (by omega) (fun hb594 => False.elim (by omega)) (fun hb594 => ?_)
        refine lf_iconst d_W_law_597 (v := Int32.ofInt ((1 : Nat) : Int)) rfl ?_
        refine lf_goto d_W_law_598 (tgt := 602) (by decide) ?_
        refine gi_icmp_eq d_W_law_602 (tgt := 614) (by decide) (by omega) (fun hb602 => False.elim (by omega)) (fun hb602 => ?_)
        refine lf_aload_n d_W_law_605 rfl rfl rfl ?_
        refine gw_callP s_W_law_606 (m_patterns hx hst3.1.2.2.1 hst3.1.2.2.2.1) (S := [_]) rfl rfl (gcR_2 (c_0 hM)) (by decide) (by decide +kernel) (Nat.le_of_ble_eq_true rfl) ?_
        refine gi_top ((congrFun (ipt_o (by decide)) 4).trans hp4) ?_
        refine lf_bipush d_W_law_609 (v := Int32.ofInt ((64 : Nat) : Int)) (by decide +kernel) ?_
        refine gi_icmp_ne d_W_law_611 (tgt := 618) (by decide) (by omega) (fun hb611 => False.elim (by omega)) (fun hb611 => ?_)
        refine lf_iconst d_W_law_614 (v := Int32.ofInt ((1 : Nat) : Int)) rfl ?_
        refine lf_goto d_W_law_615 (tgt := 619) (by decide) ?_
        refine gi_iandN (a := 1) (b := 1) d_W_law_619 ?_
        refine gi_top rfl ?_
        refine lf_istore_n d_W_law_620 rfl (by decide +kernel) (L2 := [(2, _), (16, _), (15, _), (14, _), (12, _), (11, _), (10, _), (9, _), (1, _), (0, _), (3, _), (4, _), (5, _), (6, _), (7, _), (8, _)]) rfl ?_
        refine gi_iincN d_W_law_621 rfl (by decide +kernel) (L2 := [(16, _), (2, _), (15, _), (14, _), (12, _), (11, _), (10, _), (9, _), (1, _), (0, _), (3, _), (4, _), (5, _), (6, _), (7, _), (8, _)]) rfl ?_
        refine lf_goto d_W_law_624 (tgt := 531) (by decide) ?_
        refine lf_sub [0, 2, 3, 4, 5, 6, 7, 8, 9, 1, 10, 11, 12, 13, 14, 15] rfl ?_
        refine nxt9 _ _ (fun a h1 h2 => ?_) (fun j hj => ?_) ?_ (fun q hq => ?_) ?_ ?_
        · rw [ipt_o h1]
        · rw [ipt_s, if_neg hj]
        · rw [ipt_e, hkt]; rfl
        · rw [ipt_o (by decide)]
        · exact ⟨p, hp64, (congrFun (ipt_o (by decide)) 4).trans hp4⟩
        · exact fun _ _ => rfl
      · refine lf_room (kc1 := d + kc) (ks1 := 6 * d + ks) (by omega) (by omega) ?_
        refine lf_iload d_W_law_531 rfl ?_
        refine lf_iload d_W_law_533 rfl ?_
        refine gi_icmp_ge d_W_law_535 (tgt := 627) (by decide) (by omega) (fun hb535 => False.elim (by omega)) (fun hb535 => ?_)
        refine lf_aload d_W_law_538 rfl rfl ?_
        refine lf_iload d_W_law_540 rfl ?_
        refine lf_iload d_W_law_542 rfl ?_
        refine gi_if_eq d_W_law_544 (tgt := 559) (by decide) (by omega) (fun hb544 => ?_) (fun hb544 => False.elim (by omega))
        refine lf_iconst d_W_law_559 (v := Int32.ofInt ((1 : Nat) : Int)) rfl ?_
        refine lf_goto d_W_law_560 (tgt := 564) (by decide) ?_
        refine gi_zastoreN d_W_law_564 h130 (by omega) (by omega) ?_
        have hst2 : STq sh (ipt I1 130 ch ((1 : Nat) : Int)) J1 N ni c s no w kd ow r2 r3 dt ot bar := ST_K (fun a _ => rfl) ⟨fun a q ha _ _ _ _ => congrFun (ipt_o (by omega)) q, rfl, rfl, rfl, rfl⟩ (fun a h8 h9 => ipt_o (by omega)) (congrFun (ipt_o (by decide)) 9) rfl rfl rfl hst1
        have hSH2 := hst2.1.2.2.1
        have hC2 := hst2.1.2.2.2.1
        refine lf_iload_n d_W_law_565 rfl rfl ?_
        refine lf_aload_n d_W_law_566 rfl rfl rfl ?_
        refine lf_iload d_W_law_567 rfl ?_
        refine gw_callI s_W_law_569 (wI_pattern hx hM (m_pattern hx hSH2 hC2 (p := p) (c := ch) hch (by rw [ipt_o (by decide)]; exact hp4) (by omega) (hkc.trans hkt)) (lev := 10) (by decide)) (S := [_]) rfl rfl gcR_1 (by decide) (by decide +kernel) (Nat.le_of_ble_eq_true rfl) (fun r569 I569 J569 w569 => ?_)
        obtain ⟨hr9, rfl, hj9⟩ := w569
        rw [hr9]
        clear hr9
        have hst3 : STq sh (ipt (ipt I1 130 ch ((1 : Nat) : Int)) 17 4 ((p + 1 : Nat) : Int)) J569 N ni c s no w kd ow r2 r3 dt ot bar := ST_K (fun a _ => rfl) ⟨fun a q ha _ _ h17 _ => congrFun (ipt_o h17) q, hj9 26 (by decide), hj9 27 (by decide), hj9 28 (by decide), congrFun (hj9 15 (by decide)) 3⟩ (fun a h8 h9 => ipt_o (by omega)) (congrFun (ipt_o (by decide)) 9) (hj9 29 (by decide)) (hj9 30 (by decide)) (congrFun (hj9 15 (by decide)) 11) hst2
        refine gi_if_lt d_W_law_572 (tgt := 579) (by decide) (by omega) (fun hb572 => False.elim (by omega)) (fun hb572 => ?_)
        refine lf_iconst d_W_law_575 (v := Int32.ofInt ((1 : Nat) : Int)) rfl ?_
        refine lf_goto d_W_law_576 (tgt := 580) (by decide) ?_
        refine lf_aload d_W_law_580 rfl rfl ?_
        refine lf_iload d_W_law_582 rfl ?_
        refine gi_zaloadN d_W_law_584 h130 (by omega) ?_
        refine gi_top ((congrFun (ipt_o (by decide)) ch).trans ipt_e) ?_
        refine gi_if_eq d_W_law_585 (tgt := 601) (by decide) (by omega) (fun hb585 => False.elim (by omega)) (fun hb585 => ?_)
        refine lf_aload_n d_W_law_588 rfl rfl rfl ?_
        refine gw_callP s_W_law_589 (m_patterns hx hst3.1.2.2.1 hst3.1.2.2.2.1) (S := [_, _]) rfl rfl (gcR_2 (c_0 hM)) (by decide) (by decide +kernel) (Nat.le_of_ble_eq_true rfl) ?_
        refine gi_top ipt_e ?_
        refine lf_bipush d_W_law_592 (v := Int32.ofInt ((64 : Nat) : Int)) (by decide +kernel) ?_
        refine gi_icmp_gt d_W_law_594 (tgt := 601) (by decide) (by omega) (fun hb594 => False.elim (by omega)) (fun hb594 => ?_)
        refine lf_iconst d_W_law_597 (v := Int32.ofInt ((1 : Nat) : Int)) rfl ?_
        refine lf_goto d_W_law_598 (tgt := 602) (by decide) ?_
        refine gi_icmp_eq d_W_law_602 (tgt := 614) (by decide) (by omega) (fun hb602 => ?_) (fun hb602 => False.elim (by omega))
        refine lf_iconst d_W_law_614 (v := Int32.ofInt ((1 : Nat) : Int)) rfl ?_
        refine lf_goto d_W_law_615 (tgt := 619) (by decide) ?_
        refine gi_iandN (a := 1) (b := 1) d_W_law_619 ?_
        refine gi_top rfl ?_
        refine lf_istore_n d_W_law_620 rfl (by decide +kernel) (L2 := [(2, _), (16, _), (15, _), (14, _), (12, _), (11, _), (10, _), (9, _), (1, _), (0, _), (3, _), (4, _), (5, _), (6, _), (7, _), (8, _)]) rfl ?_
        refine gi_iincN d_W_law_621 rfl (by decide +kernel) (L2 := [(16, _), (2, _), (15, _), (14, _), (12, _), (11, _), (10, _), (9, _), (1, _), (0, _), (3, _), (4, _), (5, _), (6, _), (7, _), (8, _)]) rfl ?_
        refine lf_goto d_W_law_624 (tgt := 531) (by decide) ?_
        refine lf_sub [0, 2, 3, 4, 5, 6, 7, 8, 9, 1, 10, 11, 12, 13, 14, 15] rfl ?_
        refine nxt9 _ _ (fun a h1 h2 => ?_) (fun j hj => ?_) ?_ (fun q hq => ?_) ?_ ?_
        · rw [ipt_o h2, ipt_o h1]
        · rw [ipt_o (by decide), ipt_s, if_neg hj]
        · rw [ipt_o (by decide), ipt_e, hkt]; rfl
        · rw [ipt_s, if_neg hq, ipt_o (by decide)]
        · exact ⟨p + 1, by omega, ipt_e⟩
        · exact hj9
    | true =>
      have hb1 : bar = (b : Int) := hbar
      have hbi : bn true = 1 := rfl
      have hkv : kpt N s kd r2 r3 bar ch = vlw N s kd r2 r3 ch b := by
        unfold kpt
        rw [hb1, decide_eq_false (by omega), Bool.false_or, Int.toNat_natCast]
      cases hkt : kpt N s kd r2 r3 bar ch with
      | true =>
        have hvl : bn (vlw N s kd r2 r3 ch b) = 1 := by rw [← hkv, hkt]; rfl
        by_cases hpf : p = 64
        · refine lf_room (kc1 := (d + kc) + 1) (ks1 := (6 * d + ks) + 6) (by omega) (by omega) ?_
          refine lf_iload d_W_law_531 rfl ?_
          refine lf_iload d_W_law_533 rfl ?_
          refine gi_icmp_ge d_W_law_535 (tgt := 627) (by decide) (by omega) (fun hb535 => False.elim (by omega)) (fun hb535 => ?_)
          refine lf_aload d_W_law_538 rfl rfl ?_
          refine lf_iload d_W_law_540 rfl ?_
          refine lf_iload d_W_law_542 rfl ?_
          refine gi_if_eq d_W_law_544 (tgt := 559) (by decide) (by omega) (fun hb544 => False.elim (by omega)) (fun hb544 => ?_)
          refine lf_aload d_W_law_547 rfl rfl ?_
          refine lf_iload d_W_law_549 rfl ?_
          refine gi_aald (kd := 0) d_W_law_551 rfl hv1 (by omega) (hv2 ch (by omega)) ?_
          refine lf_iload d_W_law_552 rfl ?_
          refine gi_ialoadN d_W_law_554 (hv3 ch (by omega)) (by omega) ?_
          refine gi_top (hv4 ch b hch hb9) ?_
          refine lf_iconst d_W_law_555 (v := Int32.ofInt ((1 : Nat) : Int)) rfl ?_
          refine gi_icmp_ne d_W_law_556 (tgt := 563) (by decide) (by omega) (fun hb556 => False.elim (by omega)) (fun hb556 => ?_)
          refine lf_iconst d_W_law_559 (v := Int32.ofInt ((1 : Nat) : Int)) rfl ?_
          refine lf_goto d_W_law_560 (tgt := 564) (by decide) ?_
          refine gi_zastoreN d_W_law_564 h130 (by omega) (by omega) ?_
          have hst2 : STq sh (ipt I1 130 ch ((1 : Nat) : Int)) J1 N ni c s no w kd ow r2 r3 dt ot bar := ST_K (fun a _ => rfl) ⟨fun a q ha _ _ _ _ => congrFun (ipt_o (by omega)) q, rfl, rfl, rfl, rfl⟩ (fun a h8 h9 => ipt_o (by omega)) (congrFun (ipt_o (by decide)) 9) rfl rfl rfl hst1
          have hSH2 := hst2.1.2.2.1
          have hC2 := hst2.1.2.2.2.1
          refine lf_iload_n d_W_law_565 rfl rfl ?_
          refine lf_aload_n d_W_law_566 rfl rfl rfl ?_
          refine lf_iload d_W_law_567 rfl ?_
          refine gw_callX s_W_law_569 (w_pattern_3 hx hM (EVt_x (m_pattern_t2 hx hSH2 hC2 (c := ch) hch (hkc.trans hkt) (by rw [ipt_o (by decide), hp4, hpf]))) (lev := 10) (by decide)) (S := [_]) rfl rfl gcR_1 (by decide) (by decide +kernel) (Nat.le_of_ble_eq_true rfl) (fun I569 J569 w569 => ?_)
          obtain ⟨hi9, hj9⟩ := w569
          rw [hi9, hj9]
          clear hi9 hj9
          have hst3 := hst2
          refine gi_if_lt d_W_law_572 (tgt := 579) (by decide) (by omega) (fun hb572 => ?_) (fun hb572 => False.elim (by omega))
          refine lf_iconst d_W_law_579 (v := Int32.ofInt ((0 : Nat) : Int)) rfl ?_
          refine lf_aload d_W_law_580 rfl rfl ?_
          refine lf_iload d_W_law_582 rfl ?_
          refine gi_zaloadN d_W_law_584 h130 (by omega) ?_
          refine gi_top ipt_e ?_
          refine gi_if_eq d_W_law_585 (tgt := 601) (by decide) (by omega) (fun hb585 => False.elim (by omega)) (fun hb585 => ?_)
          refine lf_aload_n d_W_law_588 rfl rfl rfl ?_
          refine gw_callP s_W_law_589 (m_patterns hx hst3.1.2.2.1 hst3.1.2.2.2.1) (S := [_, _]) rfl rfl (gcR_2 (c_0 hM)) (by decide) (by decide +kernel) (Nat.le_of_ble_eq_true rfl) ?_
          refine gi_top ((congrFun (ipt_o (by decide)) 4).trans hp4) ?_
          refine lf_bipush d_W_law_592 (v := Int32.ofInt ((64 : Nat) : Int)) (by decide +kernel) ?_
          refine gi_icmp_gt d_W_law_594 (tgt := 601) (by decide) (by omega) (fun hb594 => False.elim (by omega)) (fun hb594 => ?_)
          refine lf_iconst d_W_law_597 (v := Int32.ofInt ((1 : Nat) : Int)) rfl ?_
          refine lf_goto d_W_law_598 (tgt := 602) (by decide) ?_
          refine gi_icmp_eq d_W_law_602 (tgt := 614) (by decide) (by omega) (fun hb602 => False.elim (by omega)) (fun hb602 => ?_)
          refine lf_aload_n d_W_law_605 rfl rfl rfl ?_
          refine gw_callP s_W_law_606 (m_patterns hx hst3.1.2.2.1 hst3.1.2.2.2.1) (S := [_]) rfl rfl (gcR_2 (c_0 hM)) (by decide) (by decide +kernel) (Nat.le_of_ble_eq_true rfl) ?_
          refine gi_top ((congrFun (ipt_o (by decide)) 4).trans hp4) ?_
          refine lf_bipush d_W_law_609 (v := Int32.ofInt ((64 : Nat) : Int)) (by decide +kernel) ?_
          refine gi_icmp_ne d_W_law_611 (tgt := 618) (by decide) (by omega) (fun hb611 => False.elim (by omega)) (fun hb611 => ?_)
          refine lf_iconst d_W_law_614 (v := Int32.ofInt ((1 : Nat) : Int)) rfl ?_
          refine lf_goto d_W_law_615 (tgt := 619) (by decide) ?_
          refine gi_iandN (a := 1) (b := 1) d_W_law_619 ?_
          refine gi_top rfl ?_
          refine lf_istore_n d_W_law_620 rfl (by decide +kernel) (L2 := [(2, _), (16, _), (15, _), (14, _), (12, _), (11, _), (10, _), (9, _), (1, _), (0, _), (3, _), (4, _), (5, _), (6, _), (7, _), (8, _)]) rfl ?_
          refine gi_iincN d_W_law_621 rfl (by decide +kernel) (L2 := [(16, _), (2, _), (15, _), (14, _), (12, _), (11, _), (10, _), (9, _), (1, _), (0, _), (3, _), (4, _), (5, _), (6, _), (7, _), (8, _)]) rfl ?_
          refine lf_goto d_W_law_624 (tgt := 531) (by decide) ?_
          refine lf_sub [0, 2, 3, 4, 5, 6, 7, 8, 9, 1, 10, 11, 12, 13, 14, 15] rfl ?_
          refine nxt9 _ _ (fun a h1 h2 => ?_) (fun j hj => ?_) ?_ (fun q hq => ?_) ?_ ?_
          · rw [ipt_o h1]
          · rw [ipt_s, if_neg hj]
          · rw [ipt_e, hkt]; rfl
          · rw [ipt_o (by decide)]
          · exact ⟨p, hp64, (congrFun (ipt_o (by decide)) 4).trans hp4⟩
          · exact fun _ _ => rfl
        · refine lf_room (kc1 := d + kc) (ks1 := 6 * d + ks) (by omega) (by omega) ?_
          refine lf_iload d_W_law_531 rfl ?_
          refine lf_iload d_W_law_533 rfl ?_
          refine gi_icmp_ge d_W_law_535 (tgt := 627) (by decide) (by omega) (fun hb535 => False.elim (by omega)) (fun hb535 => ?_)
          refine lf_aload d_W_law_538 rfl rfl ?_
          refine lf_iload d_W_law_540 rfl ?_
          refine lf_iload d_W_law_542 rfl ?_
          refine gi_if_eq d_W_law_544 (tgt := 559) (by decide) (by omega) (fun hb544 => False.elim (by omega)) (fun hb544 => ?_)
          refine lf_aload d_W_law_547 rfl rfl ?_
          refine lf_iload d_W_law_549 rfl ?_
          refine gi_aald (kd := 0) d_W_law_551 rfl hv1 (by omega) (hv2 ch (by omega)) ?_
          refine lf_iload d_W_law_552 rfl ?_
          refine gi_ialoadN d_W_law_554 (hv3 ch (by omega)) (by omega) ?_
          refine gi_top (hv4 ch b hch hb9) ?_
          refine lf_iconst d_W_law_555 (v := Int32.ofInt ((1 : Nat) : Int)) rfl ?_
          refine gi_icmp_ne d_W_law_556 (tgt := 563) (by decide) (by omega) (fun hb556 => False.elim (by omega)) (fun hb556 => ?_)
          refine lf_iconst d_W_law_559 (v := Int32.ofInt ((1 : Nat) : Int)) rfl ?_
          refine lf_goto d_W_law_560 (tgt := 564) (by decide) ?_
          refine gi_zastoreN d_W_law_564 h130 (by omega) (by omega) ?_
          have hst2 : STq sh (ipt I1 130 ch ((1 : Nat) : Int)) J1 N ni c s no w kd ow r2 r3 dt ot bar := ST_K (fun a _ => rfl) ⟨fun a q ha _ _ _ _ => congrFun (ipt_o (by omega)) q, rfl, rfl, rfl, rfl⟩ (fun a h8 h9 => ipt_o (by omega)) (congrFun (ipt_o (by decide)) 9) rfl rfl rfl hst1
          have hSH2 := hst2.1.2.2.1
          have hC2 := hst2.1.2.2.2.1
          refine lf_iload_n d_W_law_565 rfl rfl ?_
          refine lf_aload_n d_W_law_566 rfl rfl rfl ?_
          refine lf_iload d_W_law_567 rfl ?_
          refine gw_callI s_W_law_569 (wI_pattern hx hM (m_pattern hx hSH2 hC2 (p := p) (c := ch) hch (by rw [ipt_o (by decide)]; exact hp4) (by omega) (hkc.trans hkt)) (lev := 10) (by decide)) (S := [_]) rfl rfl gcR_1 (by decide) (by decide +kernel) (Nat.le_of_ble_eq_true rfl) (fun r569 I569 J569 w569 => ?_)
          obtain ⟨hr9, rfl, hj9⟩ := w569
          rw [hr9]
          clear hr9
          have hst3 : STq sh (ipt (ipt I1 130 ch ((1 : Nat) : Int)) 17 4 ((p + 1 : Nat) : Int)) J569 N ni c s no w kd ow r2 r3 dt ot bar := ST_K (fun a _ => rfl) ⟨fun a q ha _ _ h17 _ => congrFun (ipt_o h17) q, hj9 26 (by decide), hj9 27 (by decide), hj9 28 (by decide), congrFun (hj9 15 (by decide)) 3⟩ (fun a h8 h9 => ipt_o (by omega)) (congrFun (ipt_o (by decide)) 9) (hj9 29 (by decide)) (hj9 30 (by decide)) (congrFun (hj9 15 (by decide)) 11) hst2
          refine gi_if_lt d_W_law_572 (tgt := 579) (by decide) (by omega) (fun hb572 => False.elim (by omega)) (fun hb572 => ?_)
          refine lf_iconst d_W_law_575 (v := Int32.ofInt ((1 : Nat) : Int)) rfl ?_
          refine lf_goto d_W_law_576 (tgt := 580) (by decide) ?_
          refine lf_aload d_W_law_580 rfl rfl ?_
          refine lf_iload d_W_law_582 rfl ?_
          refine gi_zaloadN d_W_law_584 h130 (by omega) ?_
          refine gi_top ((congrFun (ipt_o (by decide)) ch).trans ipt_e) ?_
          refine gi_if_eq d_W_law_585 (tgt := 601) (by decide) (by omega) (fun hb585 => False.elim (by omega)) (fun hb585 => ?_)
          refine lf_aload_n d_W_law_588 rfl rfl rfl ?_
          refine gw_callP s_W_law_589 (m_patterns hx hst3.1.2.2.1 hst3.1.2.2.2.1) (S := [_, _]) rfl rfl (gcR_2 (c_0 hM)) (by decide) (by decide +kernel) (Nat.le_of_ble_eq_true rfl) ?_
          refine gi_top ipt_e ?_
          refine lf_bipush d_W_law_592 (v := Int32.ofInt ((64 : Nat) : Int)) (by decide +kernel) ?_
          refine gi_icmp_gt d_W_law_594 (tgt := 601) (by decide) (by omega) (fun hb594 => False.elim (by omega)) (fun hb594 => ?_)
          refine lf_iconst d_W_law_597 (v := Int32.ofInt ((1 : Nat) : Int)) rfl ?_
          refine lf_goto d_W_law_598 (tgt := 602) (by decide) ?_
          refine gi_icmp_eq d_W_law_602 (tgt := 614) (by decide) (by omega) (fun hb602 => ?_) (fun hb602 => False.elim (by omega))
          refine lf_iconst d_W_law_614 (v := Int32.ofInt ((1 : Nat) : Int)) rfl ?_
          refine lf_goto d_W_law_615 (tgt := 619) (by decide) ?_
          refine gi_iandN (a := 1) (b := 1) d_W_law_619 ?_
          refine gi_top rfl ?_
          refine lf_istore_n d_W_law_620 rfl (by decide +kernel) (L2 := [(2, _), (16, _), (15, _), (14, _), (12, _), (11, _), (10, _), (9, _), (1, _), (0, _), (3, _), (4, _), (5, _), (6, _), (7, _), (8, _)]) rfl ?_
          refine gi_iincN d_W_law_621 rfl (by decide +kernel) (L2 := [(16, _), (2, _), (15, _), (14, _), (12, _), (11, _), (10, _), (9, _), (1, _), (0, _), (3, _), (4, _), (5, _), (6, _), (7, _), (8, _)]) rfl ?_
          refine lf_goto d_W_law_624 (tgt := 531) (by decide) ?_
          refine lf_sub [0, 2, 3, 4, 5, 6, 7, 8, 9, 1, 10, 11, 12, 13, 14, 15] rfl ?_
          refine nxt9 _ _ (fun a h1 h2 => ?_) (fun j hj => ?_) ?_ (fun q hq => ?_) ?_ ?_
          · rw [ipt_o h2, ipt_o h1]
          · rw [ipt_o (by decide), ipt_s, if_neg hj]
          · rw [ipt_o (by decide), ipt_e, hkt]; rfl
          · rw [ipt_s, if_neg hq, ipt_o (by decide)]
          · exact ⟨p + 1, by omega, ipt_e⟩
          · exact hj9
      | false =>
        have hvl : bn (vlw N s kd r2 r3 ch b) = 0 := by rw [← hkv, hkt]; rfl
        refine lf_room (kc1 := (d + kc) + 1) (ks1 := (6 * d + ks) + 6) (by omega) (by omega) ?_
        refine lf_iload d_W_law_531 rfl ?_
        refine lf_iload d_W_law_533 rfl ?_
        refine gi_icmp_ge d_W_law_535 (tgt := 627) (by decide) (by omega) (fun hb535 => False.elim (by omega)) (fun hb535 => ?_)
        refine lf_aload d_W_law_538 rfl rfl ?_
        refine lf_iload d_W_law_540 rfl ?_
        refine lf_iload d_W_law_542 rfl ?_
        refine gi_if_eq d_W_law_544 (tgt := 559) (by decide) (by omega) (fun hb544 => False.elim (by omega)) (fun hb544 => ?_)
        refine lf_aload d_W_law_547 rfl rfl ?_
        refine lf_iload d_W_law_549 rfl ?_
        refine gi_aald (kd := 0) d_W_law_551 rfl hv1 (by omega) (hv2 ch (by omega)) ?_
        refine lf_iload d_W_law_552 rfl ?_
        refine gi_ialoadN d_W_law_554 (hv3 ch (by omega)) (by omega) ?_
        refine gi_top (hv4 ch b hch hb9) ?_
        refine lf_iconst d_W_law_555 (v := Int32.ofInt ((1 : Nat) : Int)) rfl ?_
        refine gi_icmp_ne d_W_law_556 (tgt := 563) (by decide) (by omega) (fun hb556 => ?_) (fun hb556 => False.elim (by omega))
        refine lf_iconst d_W_law_563 (v := Int32.ofInt ((0 : Nat) : Int)) rfl ?_
        refine gi_zastoreN d_W_law_564 h130 (by omega) (by omega) ?_
        have hst2 : STq sh (ipt I1 130 ch ((0 : Nat) : Int)) J1 N ni c s no w kd ow r2 r3 dt ot bar := ST_K (fun a _ => rfl) ⟨fun a q ha _ _ _ _ => congrFun (ipt_o (by omega)) q, rfl, rfl, rfl, rfl⟩ (fun a h8 h9 => ipt_o (by omega)) (congrFun (ipt_o (by decide)) 9) rfl rfl rfl hst1
        have hSH2 := hst2.1.2.2.1
        have hC2 := hst2.1.2.2.2.1
        refine lf_iload_n d_W_law_565 rfl rfl ?_
        refine lf_aload_n d_W_law_566 rfl rfl rfl ?_
        refine lf_iload d_W_law_567 rfl ?_
        refine gw_callX s_W_law_569 (w_pattern_2 hx hM (EVt_x (m_pattern_t1 hx hSH2 hC2 (c := ch) hch (by intro z9; have := hkc.symm.trans z9; exact Bool.false_ne_true (hkt.symm.trans this)))) (lev := 10) (by decide)) (S := [_]) rfl rfl gcR_1 (by decide) (by decide +kernel) (Nat.le_of_ble_eq_true rfl) (fun I569 J569 w569 => ?_)
        obtain ⟨hi9, hj9⟩ := w569
        rw [hi9, hj9]
        clear hi9 hj9
        have hst3 := hst2
        refine gi_if_lt d_W_law_572 (tgt := 579) (by decide) (by omega) (fun hb572 => ?_) (fun hb572 => False.elim (by omega))
        refine lf_iconst d_W_law_579 (v := Int32.ofInt ((0 : Nat) : Int)) rfl ?_
        refine lf_aload d_W_law_580 rfl rfl ?_
        refine lf_iload d_W_law_582 rfl ?_
        refine gi_zaloadN d_W_law_584 h130 (by omega) ?_
        refine gi_top ipt_e ?_
        refine gi_if_eq d_W_law_585 (tgt := 601) (by decide) (by omega) (fun hb585 => ?_) (fun hb585 => False.elim (by omega))
        refine lf_iconst d_W_law_601 (v := Int32.ofInt ((0 : Nat) : Int)) rfl ?_
        refine gi_icmp_eq d_W_law_602 (tgt := 614) (by decide) (by omega) (fun hb602 => ?_) (fun hb602 => False.elim (by omega))
        refine lf_iconst d_W_law_614 (v := Int32.ofInt ((1 : Nat) : Int)) rfl ?_
        refine lf_goto d_W_law_615 (tgt := 619) (by decide) ?_
        refine gi_iandN (a := 1) (b := 1) d_W_law_619 ?_
        refine gi_top rfl ?_
        refine lf_istore_n d_W_law_620 rfl (by decide +kernel) (L2 := [(2, _), (16, _), (15, _), (14, _), (12, _), (11, _), (10, _), (9, _), (1, _), (0, _), (3, _), (4, _), (5, _), (6, _), (7, _), (8, _)]) rfl ?_
        refine gi_iincN d_W_law_621 rfl (by decide +kernel) (L2 := [(16, _), (2, _), (15, _), (14, _), (12, _), (11, _), (10, _), (9, _), (1, _), (0, _), (3, _), (4, _), (5, _), (6, _), (7, _), (8, _)]) rfl ?_
        refine lf_goto d_W_law_624 (tgt := 531) (by decide) ?_
        refine lf_sub [0, 2, 3, 4, 5, 6, 7, 8, 9, 1, 10, 11, 12, 13, 14, 15] rfl ?_
        refine nxt9 _ _ (fun a h1 h2 => ?_) (fun j hj => ?_) ?_ (fun q hq => ?_) ?_ ?_
        · rw [ipt_o h1]
        · rw [ipt_s, if_neg hj]
        · rw [ipt_e, hkt]; rfl
        · rw [ipt_o (by decide)]
        · exact ⟨p, hp64, (congrFun (ipt_o (by decide)) 4).trans hp4⟩
        · exact fun _ _ => rfl
theorem law_f (hx : HX X L9 xs) {N ni c s no w : Nat} {kd : Nat → Int} {ow r2 r3 dt : Nat → Nat} {ot : Nat → Nat → Nat} {b : Nat} (hb9 : b < N) {ib : Bool} {bar : Int} (hbar : bar = (if ib then (b : Int) else -1)) (hst : STq sh I J N ni c s no w kd ow r2 r3 dt ot bar) (hfr : ∀ a, 130 ≤ a → a < 200 → sh a = none) (h174 : I 17 4 = 0) (k627 : ∀ (s1 : sM) (I1 : mI) (J1 : mJ), STq s1 I1 J1 N ni c s no w kd ow r2 r3 dt ot bar → s1 130 = some (.inl (.boolean, 2 ^ s, 0, fun _ => none)) → (∀ a, 131 ≤ a → a < 200 → s1 a = none) → (∀ j, j < 2 ^ s → I1 130 j = ((bn (kpt N s kd r2 r3 bar j) : Nat) : Int)) → I1 24 = I 24 → LXf TT cl6 X mi_W_law (40 + 11) (1000 + 200 * 11) D P PX kc ks 627 [(15, .ref 130), (14, .int (Int32.ofInt ((bn ib : Nat) : Int))), (12, .ref 129), (11, .ref 128), (10, .int (Int32.ofInt ((b : Nat) : Int))), (9, .int (Int32.ofInt ((2 ^ s : Nat) : Int))), (1, .ref 0), (0, .retAddr 1), (2, .int (Int32.ofInt ((1 : Nat) : Int))), (3, .int (Int32.ofInt ((ni : Nat) : Int))), (4, .int (Int32.ofInt ((c : Nat) : Int))), (5, .ref 100), (6, .int (Int32.ofInt ((s : Nat) : Int))), (7, .ref 124), (8, .ref 125)] [] (hp s1 I1 J1)) : LXf TT cl6 X mi_W_law (40 + 11) (1000 + 200 * 11) D P PX (kc + 200) (ks + 1000) 522 [(14, .int (Int32.ofInt ((bn ib : Nat) : Int))), (12, .ref 129), (11, .ref 128), (10, .int (Int32.ofInt ((b : Nat) : Int))), (9, .int (Int32.ofInt ((2 ^ s : Nat) : Int))), (1, .ref 0), (0, .retAddr 1), (2, .int (Int32.ofInt ((1 : Nat) : Int))), (3, .int (Int32.ofInt ((ni : Nat) : Int))), (4, .int (Int32.ofInt ((c : Nat) : Int))), (5, .ref 100), (6, .int (Int32.ofInt ((s : Nat) : Int))), (7, .ref 124), (8, .ref 125)] [] (hp sh I J) := by
  have hL := hst.1
  obtain ⟨hrk, hrw, hSH, hC, hk3, h124, h125, h126, hd5, ho5, hcs, hsw⟩ := id hL
  obtain ⟨ki, kc9, kg, hni1, hnis, hsN, hN23, hs7⟩ := id hrk
  obtain ⟨⟨f, hs0, hf⟩, hr, hR⟩ := id hrw
  have hM := hSH.1
  have hp7 := pow2_7 hs7
  have hp0 := Nat.two_pow_pos s
  obtain ⟨⟨fv, hv1, hv2⟩, hv3, hv4⟩ := hst.2.1
  have hth := hst.2.2.1
  have hkb := hth.2.2.2.2.2.1
  refine lf_room (kc1 := (2 ^ s + kc) + 1) (ks1 := (6 * 2 ^ s + ks) + 128) (by omega) (by omega) ?_
  refine lf_iload d_W_law_522 rfl ?_
  refine gi_newB_boolean d_W_law_524 tA_boolean (m := (2 ^ s)) (B := 128) (q := 130) (by omega) (by decide) (hfr 130 (by decide) (by decide)) ?_
  refine lf_astore d_W_law_526 (by decide +kernel) rfl (L2 := [(15, _), (14, _), (12, _), (11, _), (10, _), (9, _), (1, _), (0, _), (2, _), (3, _), (4, _), (5, _), (6, _), (7, _), (8, _)]) rfl ?_
  refine lf_iconst d_W_law_528 (v := Int32.ofInt ((0 : Nat) : Int)) rfl ?_
  refine lf_istore d_W_law_529 (by decide +kernel) (L2 := [(16, _), (15, _), (14, _), (12, _), (11, _), (10, _), (9, _), (1, _), (0, _), (2, _), (3, _), (4, _), (5, _), (6, _), (7, _), (8, _)]) rfl ?_
  have hst2 : STq (spt sh 130 (.inl (.boolean, 2 ^ s, 0, fun _ => none))) (izr I 130) (jzr J 130) N ni c s no w kd ow r2 r3 dt ot bar := ST_K (fun a ha => spt_o (by omega)) ⟨fun a q ha _ _ _ _ => congrFun (izr_o (by omega)) q, jzr_o (by decide), jzr_o (by decide), jzr_o (by decide), congrFun (jzr_o (by decide)) 3⟩ (fun a h8 h9 => izr_o (by omega)) (congrFun (izr_o (by decide)) 9) (jzr_o (by decide)) (jzr_o (by decide)) (congrFun (jzr_o (by decide)) 11) hst
  refine law_f_l hx hb9 hbar hst2 spt_s (fun I1 J1 hb => ?_) (2 ^ s) 0 _ _ (by omega) ⟨fun a _ _ => rfl, fun j hj => absurd hj (Nat.not_lt_zero j), fun q _ => rfl, ⟨0, by decide, (congrFun (izr_o (by decide)) 4).trans h174⟩, fun a _ => rfl⟩
  obtain ⟨p1, p2, p3, p4, p5⟩ := hb
  have hst3 : STq (spt sh 130 (.inl (.boolean, 2 ^ s, 0, fun _ => none))) I1 J1 N ni c s no w kd ow r2 r3 dt ot bar := ST_K (fun a _ => rfl) ⟨fun a q ha _ _ h17 _ => congrFun (p1 a (by omega) h17) q, p5 26 (by decide), p5 27 (by decide), p5 28 (by decide), congrFun (p5 15 (by decide)) 3⟩ (fun a h8 h9 => p1 a (by omega) (by omega)) (congrFun (p1 15 (by decide) (by decide)) 9) (p5 29 (by decide)) (p5 30 (by decide)) (congrFun (p5 15 (by decide)) 11) hst2
  exact k627 _ I1 J1 hst3 spt_s (fun a h1 h2 => (spt_o (by omega)).trans (hfr a (by omega) h2)) p2 ((p1 24 (by decide) (by decide)).trans (izr_o (by decide)))
end LA3
