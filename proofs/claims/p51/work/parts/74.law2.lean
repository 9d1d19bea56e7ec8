section LA2
variable {X : XT} {L9 : Nat} {xs : Nat → Int32} {sh : sM} {I : mI} {J : mJ}

variable {D : mF} {P : Option Value → mF → Prop} {PX : String → mF → Prop} {kc ks : Nat}

/-- nothing below 128 has changed -/
def SMq (s1 : sM) (I1 : mI) (J1 : mJ) (sh : sM) (I : mI) (J : mJ) : Prop := ∀ a, a < 128 → s1 a = sh a ∧ I1 a = I a ∧ J1 a = J a
theorem LAW_S {s1 : sM} {I1 : mI} {J1 : mJ} {N ni c s no w : Nat} {kd : Nat → Int} {ow r2 r3 dt : Nat → Nat} {ot : Nat → Nat → Nat} (h : SMq s1 I1 J1 sh I J) (g : LAWq sh I J N ni c s no w kd ow r2 r3 dt ot) : LAWq s1 I1 J1 N ni c s no w kd ow r2 r3 dt ot :=
  LAW_K (fun a ha => (h a (by omega)).1) ⟨fun a q ha _ _ _ _ => congrFun (h a (by omega)).2.1 q, (h 26 (by decide)).2.2, (h 27 (by decide)).2.2, (h 28 (by decide)).2.2, congrFun (h 15 (by decide)).2.2 3⟩ (fun a _ ha => (h a (by omega)).2.1) g
theorem SM_rf : SMq sh I J sh I J := fun a ha => ⟨rfl, rfl, rfl⟩
theorem SM_tr {s1 s2 : sM} {I1 I2 : mI} {J1 J2 : mJ} (h : SMq s2 I2 J2 s1 I1 J1) (g : SMq s1 I1 J1 sh I J) : SMq s2 I2 J2 sh I J := fun a ha => ⟨(h a ha).1.trans (g a ha).1, (h a ha).2.1.trans (g a ha).2.1, (h a ha).2.2.trans (g a ha).2.2⟩
/-- what the house has at first -/
def INq (I : mI) (J : mJ) (s w : Nat) : Prop := (∀ j, 0 ≤ I 13 j ∧ I 13 j ≤ 1) ∧ (I 15 9 = 0 ∧ J 15 11 = Int64.ofInt (-1) ∧ (∀ u, u < w → J 29 u = evr s) ∧ (∀ q, J 30 q = 0)) ∧ (I 17 4 = 0 ∧ I 24 12 = 0 ∧ I 24 13 = -1)
theorem IN_S {s1 : sM} {I1 : mI} {J1 : mJ} {s w : Nat} (h : SMq s1 I1 J1 sh I J) (g : INq I J s w) : INq I1 J1 s w := by
  unfold INq at *
  rw [(h 13 (by decide)).2.1, (h 15 (by decide)).2.1, (h 17 (by decide)).2.1, (h 24 (by decide)).2.1, (h 15 (by decide)).2.2, (h 29 (by decide)).2.2, (h 30 (by decide)).2.2]
  exact g
theorem bz_bn (b : Bool) : bz b = ((bn b : Nat) : Int) := by cases b <;> rfl
theorem law_c_l (hx : HX X L9 xs) {N ni c s no w : Nat} {kd : Nat → Int} {ow r2 r3 dt : Nat → Nat} {ot : Nat → Nat → Nat} (hL : LAWq sh I J N ni c s no w kd ow r2 r3 dt ot) {b : Nat} (k352 : ∀ I1 : mI, (∀ a, ¬ a = 128 → I1 a = I a) ∧ (∀ j, j < N → I1 128 j = ((bn (hcl N s ni kd r2 r3 j) : Nat) : Int)) → LXf TT cl6 X mi_W_law (40 + 11) (1000 + 200 * 11) D P PX kc ks 352 [(11, .ref 128), (10, .int (Int32.ofInt ((b : Nat) : Int))), (9, .int (Int32.ofInt ((2 ^ s : Nat) : Int))), (1, .ref 0), (0, .retAddr 1), (2, .int (Int32.ofInt ((1 : Nat) : Int))), (3, .int (Int32.ofInt ((ni : Nat) : Int))), (4, .int (Int32.ofInt ((c : Nat) : Int))), (5, .ref 100), (6, .int (Int32.ofInt ((s : Nat) : Int))), (7, .ref 124), (8, .ref 125)] [] (hp (spt sh 128 (.inl (.boolean, N, 0, fun _ => none))) I1 (jzr J 128))) : ∀ (d k : Nat) (I1 : mI), k + d = N → (∀ a, ¬ a = 128 → I1 a = I a) ∧ (∀ j, j < k → I1 128 j = ((bn (hcl N s ni kd r2 r3 j) : Nat) : Int)) → LXf TT cl6 X mi_W_law (40 + 11) (1000 + 200 * 11) D P PX kc ks 259 [(12, .int (Int32.ofInt ((k : Nat) : Int))), (11, .ref 128), (10, .int (Int32.ofInt ((b : Nat) : Int))), (9, .int (Int32.ofInt ((2 ^ s : Nat) : Int))), (1, .ref 0), (0, .retAddr 1), (2, .int (Int32.ofInt ((1 : Nat) : Int))), (3, .int (Int32.ofInt ((ni : Nat) : Int))), (4, .int (Int32.ofInt ((c : Nat) : Int))), (5, .ref 100), (6, .int (Int32.ofInt ((s : Nat) : Int))), (7, .ref 124), (8, .ref 125)] [] (hp (spt sh 128 (.inl (.boolean, N, 0, fun _ => none))) I1 (jzr J 128)) := by
  obtain ⟨hrk, hrw, hSH, hC, hk3, h124, h125, h126, hd5, ho5, hcs, hsw⟩ := id hL
  obtain ⟨ki, kc9, kg, hni1, hnis, hsN, hN23, hs7⟩ := id hrk
  obtain ⟨⟨f, hs0, hf⟩, hr, hR⟩ := id hrw
  have hM := hSH.1
  have hp7 := pow2_7 hs7
  have hp0 := Nat.two_pow_pos s
  intro d
  induction d with
  | zero =>
    intro k I1 hd hb
    obtain rfl : N = k := by omega
    refine lf_iload d_W_law_259 rfl ?_
    refine lf_aload d_W_law_261 rfl rfl ?_
    refine gi_len d_W_law_263 (show spt sh 128 (.inl (.boolean, N, 0, fun _ => none)) 100 = _ from (spt_o (by decide)).trans hs0) ?_
    refine gi_icmp_ge d_W_law_264 (tgt := 352) (by decide) (by omega) (fun hb264 => ?_) (fun hb264 => False.elim (by omega))
    refine lf_sub [1, 2, 3, 4, 5, 6, 7, 8, 9, 10, 11, 12] rfl ?_
    exact k352 I1 hb
  | succ d ih =>
    intro k I1 hd hb
    have e100 : I1 (101 + k) = I (101 + k) := hb.1 _ (by omega)
    have g0 : I1 (101 + k) 0 = kd k := (congrFun e100 0).trans (hR k (by omega)).1
    have g2 : I1 (101 + k) 2 = r2 k := (congrFun e100 2).trans (hR k (by omega)).2.2.1
    have g3 : I1 (101 + k) 3 = r3 k := (congrFun e100 3).trans (hR k (by omega)).2.2.2
    have nxt9 : ∀ z : Nat, z = bn (hcl N s ni kd r2 r3 k) → LXf TT cl6 X mi_W_law (40 + 11) (1000 + 200 * 11) D P PX kc ks 259 [(12, .int (Int32.ofInt ((k + 1 : Nat) : Int))), (11, .ref 128), (10, .int (Int32.ofInt ((b : Nat) : Int))), (9, .int (Int32.ofInt ((2 ^ s : Nat) : Int))), (1, .ref 0), (0, .retAddr 1), (2, .int (Int32.ofInt ((1 : Nat) : Int))), (3, .int (Int32.ofInt ((ni : Nat) : Int))), (4, .int (Int32.ofInt ((c : Nat) : Int))), (5, .ref 100), (6, .int (Int32.ofInt ((s : Nat) : Int))), (7, .ref 124), (8, .ref 125)] [] (hp (spt sh 128 (.inl (.boolean, N, 0, fun _ => none))) (ipt I1 128 k ((z : Nat) : Int)) (jzr J 128)) := by
      intro z hz
      refine ih (k + 1) _ (by omega) ⟨fun a ha => (ipt_o ha).trans (hb.1 a ha), fun j hj => ?_⟩
      rw [ipt_s]
      by_cases e : j = k
      · rw [if_pos e, e, hz]
      · rw [if_neg e]
        exact hb.2 j (by omega)
    rcases Nat.lt_or_ge k s with q9 | q9
    · rcases Nat.lt_or_ge k ni with q8 | q8
      · have hq9 := (ki k q8).1
        refine lf_iload d_W_law_259 rfl ?_
        refine lf_aload d_W_law_261 rfl rfl ?_
        refine gi_len d_W_law_263 (show spt sh 128 (.inl (.boolean, N, 0, fun _ => none)) 100 = _ from (spt_o (by decide)).trans hs0) ?_
        refine gi_icmp_ge d_W_law_264 (tgt := 352) (by decide) (by omega) (fun hb264 => False.elim (by omega)) (fun hb264 => ?_)
        refine lf_aload d_W_law_267 rfl rfl ?_
        refine lf_iload d_W_law_269 rfl ?_
        refine lf_aload d_W_law_271 rfl rfl ?_
        refine lf_iload d_W_law_273 rfl ?_
        refine gi_aald (kd := 0) d_W_law_275 rfl ((spt_o (by decide)).trans hs0) (by omega) (hf k (by omega)) ?_
        refine lf_iconst d_W_law_276 (v := Int32.ofInt ((0 : Nat) : Int)) rfl ?_
        refine gi_ialoadN d_W_law_277 (show spt sh 128 (.inl (.boolean, N, 0, fun _ => none)) (101 + k) = _ from (spt_o (by omega)).trans (hr k (by omega))) (by omega) ?_
        refine gi_top g0 ?_
        refine lf_bipush d_W_law_278 (v := Int32.ofInt ((99 : Nat) : Int)) (by decide +kernel) ?_
        refine gi_icmp_eq d_W_law_280 (tgt := 340) (by decide) (by omega) (fun hb280 => False.elim (by omega)) (fun hb280 => ?_)
        refine lf_iload d_W_law_283 rfl ?_
        refine lf_iload d_W_law_285 rfl ?_
        refine gi_icmp_lt d_W_law_287 (tgt := 344) (by decide) (by omega) (fun hb287 => ?_) (fun hb287 => False.elim (by omega))
        refine lf_iconst d_W_law_344 (v := Int32.ofInt ((0 : Nat) : Int)) rfl ?_
        refine gi_zastoreN d_W_law_345 (show spt sh 128 (.inl (.boolean, N, 0, fun _ => none)) 128 = _ from spt_s) (by omega) (by omega) ?_
        refine gi_iincN d_W_law_346 rfl (by decide +kernel) (L2 := [(12, _), (11, _), (10, _), (9, _), (1, _), (0, _), (2, _), (3, _), (4, _), (5, _), (6, _), (7, _), (8, _)]) rfl ?_
        refine lf_goto d_W_law_349 (tgt := 259) (by decide) ?_
        exact nxt9 0 (by rw [hcl_s q9 hsN, decide_eq_false (by omega)]; rfl)
      · have hq9 := (kc9 k q8 q9).1
        refine lf_iload d_W_law_259 rfl ?_
        refine lf_aload d_W_law_261 rfl rfl ?_
        refine gi_len d_W_law_263 (show spt sh 128 (.inl (.boolean, N, 0, fun _ => none)) 100 = _ from (spt_o (by decide)).trans hs0) ?_
        refine gi_icmp_ge d_W_law_264 (tgt := 352) (by decide) (by omega) (fun hb264 => False.elim (by omega)) (fun hb264 => ?_)
        refine lf_aload d_W_law_267 rfl rfl ?_
        refine lf_iload d_W_law_269 rfl ?_
        refine lf_aload d_W_law_271 rfl rfl ?_
        refine lf_iload d_W_law_273 rfl ?_
        refine gi_aald (kd := 0) d_W_law_275 rfl ((spt_o (by decide)).trans hs0) (by omega) (hf k (by omega)) ?_
        refine lf_iconst d_W_law_276 (v := Int32.ofInt ((0 : Nat) : Int)) rfl ?_
        refine gi_ialoadN d_W_law_277 (show spt sh 128 (.inl (.boolean, N, 0, fun _ => none)) (101 + k) = _ from (spt_o (by omega)).trans (hr k (by omega))) (by omega) ?_
        refine gi_top g0 ?_
        refine lf_bipush d_W_law_278 (v := Int32.ofInt ((99 : Nat) : Int)) (by decide +kernel) ?_
        refine gi_icmp_eq d_W_law_280 (tgt := 340) (by decide) (by omega) (fun hb280 => ?_) (fun hb280 => False.elim (by omega))
        refine lf_iconst d_W_law_340 (v := Int32.ofInt ((1 : Nat) : Int)) rfl ?_
        refine lf_goto d_W_law_341 (tgt := 345) (by decide) ?_
        refine gi_zastoreN d_W_law_345 (show spt sh 128 (.inl (.boolean, N, 0, fun _ => none)) 128 = _ from spt_s) (by omega) (by omega) ?_
        refine gi_iincN d_W_law_346 rfl (by decide +kernel) (L2 := [(12, _), (11, _), (10, _), (9, _), (1, _), (0, _), (2, _), (3, _), (4, _), (5, _), (6, _), (7, _), (8, _)]) rfl ?_
        refine lf_goto d_W_law_349 (tgt := 259) (by decide) ?_
        exact nxt9 1 (by rw [hcl_s q9 hsN, decide_eq_true q8]; rfl)
    · obtain ⟨g4, g5, g6, g7, -⟩ := kg k q9 (by omega)
      have hpr : -2147483648 ≤ kd k ∧ kd k < 2147483648 ∧ ¬ kd k = 99 := by
        unfold KDq at g4
        omega
      have hG := hcl_g (ni := ni) (kd := kd) q9 (show k < N by omega) g6 g7
      have l2 := bn_le (hcl N s ni kd r2 r3 (r2 k))
      have l3 := bn_le (hcl N s ni kd r2 r3 (r3 k))
      have hpb : pbF kd r2 r3 k = if kd k = 98 ∨ kd k = 118 then r2 k else r3 k := rfl
      cases e2 : hcl N s ni kd r2 r3 (r2 k) with
      | true =>
        have v2 : bn (hcl N s ni kd r2 r3 (r2 k)) = 1 := by rw [e2]; rfl
        refine lf_iload d_W_law_259 rfl ?_
        refine lf_aload d_W_law_261 rfl rfl ?_
        refine gi_len d_W_law_263 (show spt sh 128 (.inl (.boolean, N, 0, fun _ => none)) 100 = _ from (spt_o (by decide)).trans hs0) ?_
        refine gi_icmp_ge d_W_law_264 (tgt := 352) (by decide) (by omega) (fun hb264 => False.elim (by omega)) (fun hb264 => ?_)
        refine lf_aload d_W_law_267 rfl rfl ?_
        refine lf_iload d_W_law_269 rfl ?_
        refine lf_aload d_W_law_271 rfl rfl ?_
        refine lf_iload d_W_law_273 rfl ?_
        refine gi_aald (kd := 0) d_W_law_275 rfl ((spt_o (by decide)).trans hs0) (by omega) (hf k (by omega)) ?_
        refine lf_iconst d_W_law_276 (v := Int32.ofInt ((0 : Nat) : Int)) rfl ?_
        refine gi_ialoadN d_W_law_277 (show spt sh 128 (.inl (.boolean, N, 0, fun _ => none)) (101 + k) = _ from (spt_o (by omega)).trans (hr k (by omega))) (by omega) ?_
        refine gi_top g0 ?_
        refine lf_bipush d_W_law_278 (v := Int32.ofInt ((99 : Nat) : Int)) (by decide +kernel) ?_
        refine gi_icmp_eq d_W_law_280 (tgt := 340) (by decide) (by omega) (fun hb280 => False.elim (by omega)) (fun hb280 => ?_)
        refine lf_iload d_W_law_283 rfl ?_
        refine lf_iload d_W_law_285 rfl ?_
        refine gi_icmp_lt d_W_law_287 (tgt := 344) (by decide) (by omega) (fun hb287 => False.elim (by omega)) (fun hb287 => ?_)
        refine lf_aload d_W_law_290 rfl rfl ?_
        refine lf_aload d_W_law_292 rfl rfl ?_
        refine lf_iload d_W_law_294 rfl ?_
        refine gi_aald (kd := 0) d_W_law_296 rfl ((spt_o (by decide)).trans hs0) (by omega) (hf k (by omega)) ?_
        refine lf_iconst d_W_law_297 (v := Int32.ofInt ((2 : Nat) : Int)) rfl ?_
        refine gi_ialoadN d_W_law_298 (show spt sh 128 (.inl (.boolean, N, 0, fun _ => none)) (101 + k) = _ from (spt_o (by omega)).trans (hr k (by omega))) (by omega) ?_
        refine gi_top g2 ?_
        refine gi_zaloadN d_W_law_299 (show spt sh 128 (.inl (.boolean, N, 0, fun _ => none)) 128 = _ from spt_s) (by omega) ?_
        refine gi_top (hb.2 (r2 k) (by omega)) ?_
        refine gi_if_ne d_W_law_300 (tgt := 340) (by decide) (by omega) (fun hb300 => ?_) (fun hb300 => False.elim (by omega))
        refine lf_iconst d_W_law_340 (v := Int32.ofInt ((1 : Nat) : Int)) rfl ?_
        refine lf_goto d_W_law_341 (tgt := 345) (by decide) ?_
        refine gi_zastoreN d_W_law_345 (show spt sh 128 (.inl (.boolean, N, 0, fun _ => none)) 128 = _ from spt_s) (by omega) (by omega) ?_
        refine gi_iincN d_W_law_346 rfl (by decide +kernel) (L2 := [(12, _), (11, _), (10, _), (9, _), (1, _), (0, _), (2, _), (3, _), (4, _), (5, _), (6, _), (7, _), (8, _)]) rfl ?_
        refine lf_goto d_W_law_349 (tgt := 259) (by decide) ?_
        exact nxt9 1 (by rw [hG, e2, Bool.true_or]; rfl)
      | false =>
        have v2 : bn (hcl N s ni kd r2 r3 (r2 k)) = 0 := by rw [e2]; rfl
        by_cases hk98 : kd k = 98
        · rw [if_pos (Or.inl hk98)] at hpb
          refine lf_iload d_W_law_259 rfl ?_
          refine lf_aload d_W_law_261 rfl rfl ?_
          refine gi_len d_W_law_263 (show spt sh 128 (.inl (.boolean, N, 0, fun _ => none)) 100 = _ from (spt_o (by decide)).trans hs0) ?_
          refine gi_icmp_ge d_W_law_264 (tgt := 352) (by decide) (by omega) (fun hb264 => False.elim (by omega)) (fun hb264 => ?_)
          refine lf_aload d_W_law_267 rfl rfl ?_
          refine lf_iload d_W_law_269 rfl ?_
          refine lf_aload d_W_law_271 rfl rfl ?_
          refine lf_iload d_W_law_273 rfl ?_
          refine gi_aald (kd := 0) d_W_law_275 rfl ((spt_o (by decide)).trans hs0) (by omega) (hf k (by omega)) ?_
          refine lf_iconst d_W_law_276 (v := Int32.ofInt ((0 : Nat) : Int)) rfl ?_
          refine gi_ialoadN d_W_law_277 (show spt sh 128 (.inl (.boolean, N, 0, fun _ => none)) (101 + k) = _ from (spt_o (by omega)).trans (hr k (by omega))) (by omega) ?_
          refine gi_top g0 ?_
          refine lf_bipush d_W_law_278 (v := Int32.ofInt ((99 : Nat) : Int)) (by decide +kernel) ?_
          refine gi_icmp_eq d_W_law_280 (tgt := 340) (by decide) (by omega) (fun hb280 => False.elim (by omega)) (fun hb280 => ?_)
          refine lf_iload d_W_law_283 rfl ?_
          refine lf_iload d_W_law_285 rfl ?_
          refine gi_icmp_lt d_W_law_287 (tgt := 344) (by decide) (by omega) (fun hb287 => False.elim (by omega)) (fun hb287 => ?_)
          refine lf_aload d_W_law_290 rfl rfl ?_
          refine lf_aload d_W_law_292 rfl rfl ?_
          refine lf_iload d_W_law_294 rfl ?_
          refine gi_aald (kd := 0) d_W_law_296 rfl ((spt_o (by decide)).trans hs0) (by omega) (hf k (by omega)) ?_
          refine lf_iconst d_W_law_297 (v := Int32.ofInt ((2 : Nat) : Int)) rfl ?_
          refine gi_ialoadN d_W_law_298 (show spt sh 128 (.inl (.boolean, N, 0, fun _ => none)) (101 + k) = _ from (spt_o (by omega)).trans (hr k (by omega))) (by omega) ?_
          refine gi_top g2 ?_
          refine gi_zaloadN d_W_law_299 (show spt sh 128 (.inl (.boolean, N, 0, fun _ => none)) 128 = _ from spt_s) (by omega) ?_
          refine gi_top (hb.2 (r2 k) (by omega)) ?_
          refine gi_if_ne d_W_law_300 (tgt := 340) (by decide) (by omega) (fun hb300 => False.elim (by omega)) (fun hb300 => ?_)
          refine lf_aload d_W_law_303 rfl rfl ?_
          refine lf_iload d_W_law_305 rfl ?_
          refine gi_aald (kd := 0) d_W_law_307 rfl ((spt_o (by decide)).trans hs0) (by omega) (hf k (by omega)) ?_
          refine lf_iconst d_W_law_308 (v := Int32.ofInt ((0 : Nat) : Int)) rfl ?_
          refine gi_ialoadN d_W_law_309 (show spt sh 128 (.inl (.boolean, N, 0, fun _ => none)) (101 + k) = _ from (spt_o (by omega)).trans (hr k (by omega))) (by omega) ?_
          refine gi_top g0 ?_
          refine lf_bipush d_W_law_310 (v := Int32.ofInt ((98 : Nat) : Int)) (by decide +kernel) ?_
          refine gi_icmp_eq d_W_law_312 (tgt := 344) (by decide) (by omega) (fun hb312 => ?_) (fun hb312 => False.elim (by omega))
          refine lf_iconst d_W_law_344 (v := Int32.ofInt ((0 : Nat) : Int)) rfl ?_
          refine gi_zastoreN d_W_law_345 (show spt sh 128 (.inl (.boolean, N, 0, fun _ => none)) 128 = _ from spt_s) (by omega) (by omega) ?_
          refine gi_iincN d_W_law_346 rfl (by decide +kernel) (L2 := [(12, _), (11, _), (10, _), (9, _), (1, _), (0, _), (2, _), (3, _), (4, _), (5, _), (6, _), (7, _), (8, _)]) rfl ?_
          refine lf_goto d_W_law_349 (tgt := 259) (by decide) ?_
          exact nxt9 0 (by rw [hG, hpb, e2]; rfl)
        · by_cases hk118 : kd k = 118
          · rw [if_pos (Or.inr hk118)] at hpb
            refine lf_iload d_W_law_259 rfl ?_
            refine lf_aload d_W_law_261 rfl rfl ?_
            refine gi_len d_W_law_263 (show spt sh 128 (.inl (.boolean, N, 0, fun _ => none)) 100 = _ from (spt_o (by decide)).trans hs0) ?_
            refine gi_icmp_ge d_W_law_264 (tgt := 352) (by decide) (by omega) (fun hb264 => False.elim (by omega)) (fun hb264 => ?_)
            refine lf_aload d_W_law_267 rfl rfl ?_
            refine lf_iload d_W_law_269 rfl ?_
            refine lf_aload d_W_law_271 rfl rfl ?_
            refine lf_iload d_W_law_273 rfl ?_
            refine gi_aald (kd := 0) d_W_law_275 rfl ((spt_o (by decide)).trans hs0) (by omega) (hf k (by omega)) ?_
            refine lf_iconst d_W_law_276 (v := Int32.ofInt ((0 : Nat) : Int)) rfl ?_
            refine gi_ialoadN d_W_law_277 (show spt sh 128 (.inl (.boolean, N, 0, fun _ => none)) (101 + k) = _ from (spt_o (by omega)).trans (hr k (by omega))) (by omega) ?_
            refine gi_top g0 ?_
            refine lf_bipush d_W_law_278 (v := Int32.ofInt ((99 : Nat) : Int)) (by decide +kernel) ?_
            refine gi_icmp_eq d_W_law_280 (tgt := 340) (by decide) (by omega) (fun hb280 => False.elim (by omega)) (fun hb280 => ?_)
            refine lf_iload d_W_law_283 rfl ?_
            refine lf_iload d_W_law_285 rfl ?_
            refine gi_icmp_lt d_W_law_287 (tgt := 344) (by decide) (by omega) (fun hb287 => False.elim (by omega)) (fun hb287 => ?_)
            refine lf_aload d_W_law_290 rfl rfl ?_
            refine lf_aload d_W_law_292 rfl rfl ?_
            refine lf_iload d_W_law_294 rfl ?_
            refine gi_aald (kd := 0) d_W_law_296 rfl ((spt_o (by decide)).trans hs0) (by omega) (hf k (by omega)) ?_
            refine lf_iconst d_W_law_297 (v := Int32.ofInt ((2 : Nat) : Int)) rfl ?_
            refine gi_ialoadN d_W_law_298 (show spt sh 128 (.inl (.boolean, N, 0, fun _ => none)) (101 + k) = _ from (spt_o (by omega)).trans (hr k (by omega))) (by omega) ?_
            refine gi_top g2 ?_
            refine gi_zaloadN d_W_law_299 (show spt sh 128 (.inl (.boolean, N, 0, fun _ => none)) 128 = _ from spt_s) (by omega) ?_
            refine gi_top (hb.2 (r2 k) (by omega)) ?_
            refine gi_if_ne d_W_law_300 (tgt := 340) (by decide) (by omega) (fun hb300 => False.elim (by omega)) (fun hb300 => ?_)
            refine lf_aload d_W_law_303 rfl rfl ?_
            refine lf_iload d_W_law_305 rfl ?_
            refine gi_aald (kd := 0) d_W_law_307 rfl ((spt_o (by decide)).trans hs0) (by omega) (hf k (by omega)) ?_
            refine lf_iconst d_W_law_308 (v := Int32.ofInt ((0 : Nat) : Int)) rfl ?_
            refine gi_ialoadN d_W_law_309 (show spt sh 128 (.inl (.boolean, N, 0, fun _ => none)) (101 + k) = _ from (spt_o (by omega)).trans (hr k (by omega))) (by omega) ?_
            refine gi_top g0 ?_
            refine lf_bipush d_W_law_310 (v := Int32.ofInt ((98 : Nat) : Int)) (by decide +kernel) ?_
            refine gi_icmp_eq d_W_law_312 (tgt := 344) (by decide) (by omega) (fun hb312 => False.elim (by omega)) (fun hb312 => ?_)
            refine lf_aload d_W_law_315 rfl rfl ?_
            refine lf_iload d_W_law_317 rfl ?_
            refine gi_aald (kd := 0) d_W_law_319 rfl ((spt_o (by decide)).trans hs0) (by omega) (hf k (by omega)) ?_
            refine lf_iconst d_W_law_320 (v := Int32.ofInt ((0 : Nat) : Int)) rfl ?_
            refine gi_ialoadN d_W_law_321 (show spt sh 128 (.inl (.boolean, N, 0, fun _ => none)) (101 + k) = _ from (spt_o (by omega)).trans (hr k (by omega))) (by omega) ?_
            refine gi_top g0 ?_
            refine lf_bipush d_W_law_322 (v := Int32.ofInt ((118 : Nat) : Int)) (by decide +kernel) ?_
            refine gi_icmp_eq d_W_law_324 (tgt := 344) (by decide) (by omega) (fun hb324 => ?_) (fun hb324 => False.elim (by omega))
            refine lf_iconst d_W_law_344 (v := Int32.ofInt ((0 : Nat) : Int)) rfl ?_
            refine gi_zastoreN d_W_law_345 (show spt sh 128 (.inl (.boolean, N, 0, fun _ => none)) 128 = _ from spt_s) (by omega) (by omega) ?_
            refine gi_iincN d_W_law_346 rfl (by decide +kernel) (L2 := [(12, _), (11, _), (10, _), (9, _), (1, _), (0, _), (2, _), (3, _), (4, _), (5, _), (6, _), (7, _), (8, _)]) rfl ?_
            refine lf_goto d_W_law_349 (tgt := 259) (by decide) ?_
            exact nxt9 0 (by rw [hG, hpb, e2]; rfl)
          · rw [if_neg (by omega)] at hpb
            cases e3 : hcl N s ni kd r2 r3 (r3 k) with
            | true =>
              have v3 : bn (hcl N s ni kd r2 r3 (r3 k)) = 1 := by rw [e3]; rfl
              refine lf_iload d_W_law_259 rfl ?_
              refine lf_aload d_W_law_261 rfl rfl ?_
              refine gi_len d_W_law_263 (show spt sh 128 (.inl (.boolean, N, 0, fun _ => none)) 100 = _ from (spt_o (by decide)).trans hs0) ?_
              refine gi_icmp_ge d_W_law_264 (tgt := 352) (by decide) (by omega) (fun hb264 => False.elim (by omega)) (fun hb264 => ?_)
              refine lf_aload d_W_law_267 rfl rfl ?_
              refine lf_iload d_W_law_269 rfl ?_
              refine lf_aload d_W_law_271 rfl rfl ?_
              refine lf_iload d_W_law_273 rfl ?_
              refine gi_aald (kd := 0) d_W_law_275 rfl ((spt_o (by decide)).trans hs0) (by omega) (hf k (by omega)) ?_
              refine lf_iconst d_W_law_276 (v := Int32.ofInt ((0 : Nat) : Int)) rfl ?_
              refine gi_ialoadN d_W_law_277 (show spt sh 128 (.inl (.boolean, N, 0, fun _ => none)) (101 + k) = _ from (spt_o (by omega)).trans (hr k (by omega))) (by omega) ?_
              refine gi_top g0 ?_
              refine lf_bipush d_W_law_278 (v := Int32.ofInt ((99 : Nat) : Int)) (by decide +kernel) ?_
              refine gi_icmp_eq d_W_law_280 (tgt := 340) (by decide) (by omega) (fun hb280 => False.elim (by omega)) (fun hb280 => ?_)
              refine lf_iload d_W_law_283 rfl ?_
              refine lf_iload d_W_law_285 rfl ?_
              refine gi_icmp_lt d_W_law_287 (tgt := 344) (by decide) (by omega) (fun hb287 => False.elim (by omega)) (fun hb287 => ?_)
              refine lf_aload d_W_law_290 rfl rfl ?_
              refine lf_aload d_W_law_292 rfl rfl ?_
              refine lf_iload d_W_law_294 rfl ?_
              refine gi_aald (kd := 0) d_W_law_296 rfl ((spt_o (by decide)).trans hs0) (by omega) (hf k (by omega)) ?_
              refine lf_iconst d_W_law_297 (v := Int32.ofInt ((2 : Nat) : Int)) rfl ?_
              refine gi_ialoadN d_W_law_298 (show spt sh 128 (.inl (.boolean, N, 0, fun _ => none)) (101 + k) = _ from (spt_o (by omega)).trans (hr k (by omega))) (by omega) ?_
              refine gi_top g2 ?_
              refine gi_zaloadN d_W_law_299 (show spt sh 128 (.inl (.boolean, N, 0, fun _ => none)) 128 = _ from spt_s) (by omega) ?_
              refine gi_top (hb.2 (r2 k) (by omega)) ?_
              refine gi_if_ne d_W_law_300 (tgt := 340) (by decide) (by omega) (fun hb300 => False.elim (by omega)) (fun hb300 => ?_)
              refine lf_aload d_W_law_303 rfl rfl ?_
              refine lf_iload d_W_law_305 rfl ?_
              refine gi_aald (kd := 0) d_W_law_307 rfl ((spt_o (by decide)).trans hs0) (by omega) (hf k (by omega)) ?_
              refine lf_iconst d_W_law_308 (v := Int32.ofInt ((0 : Nat) : Int)) rfl ?_
              refine gi_ialoadN d_W_law_309 (show spt sh 128 (.inl (.boolean, N, 0, fun _ => none)) (101 + k) = _ from (spt_o (by omega)).trans (hr k (by omega))) (by omega) ?_
              refine gi_top g0 ?_
              refine lf_bipush d_W_law_310 (v := Int32.ofInt ((98 : Nat) : Int)) (by decide +kernel) ?_
              refine gi_icmp_eq d_W_law_312 (tgt := 344) (by decide) (by omega) (fun hb312 => False.elim (by omega)) (fun hb312 => ?_)
              refine lf_aload d_W_law_315 rfl rfl ?_
              refine lf_iload d_W_law_317 rfl ?_
              refine gi_aald (kd := 0) d_W_law_319 rfl ((spt_o (by decide)).trans hs0) (by omega) (hf k (by omega)) ?_
              refine lf_iconst d_W_law_320 (v := Int32.ofInt ((0 : Nat) : Int)) rfl ?_
              refine gi_ialoadN d_W_law_321 (show spt sh 128 (.inl (.boolean, N, 0, fun _ => none)) (101 + k) = _ from (spt_o (by omega)).trans (hr k (by omega))) (by omega) ?_
              refine gi_top g0 ?_
              refine lf_bipush d_W_law_322 (v := Int32.ofInt ((118 : Nat) : Int)) (by decide +kernel) ?_
              refine gi_icmp_eq d_W_law_324 (tgt := 344) (by decide) (by omega) (fun hb324 => False.elim (by omega)) (fun hb324 => ?_)
              refine lf_aload d_W_law_327 rfl rfl ?_
              refine lf_aload d_W_law_329 rfl rfl ?_
              refine lf_iload d_W_law_331 rfl ?_
              refine gi_aald (kd := 0) d_W_law_333 rfl ((spt_o (by decide)).trans hs0) (by omega) (hf k (by omega)) ?_
              refine lf_iconst d_W_law_334 (v := Int32.ofInt ((3 : Nat) : Int)) rfl ?_
              refine gi_ialoadN d_W_law_335 (show spt sh 128 (.inl (.boolean, N, 0, fun _ => none)) (101 + k) = _ from (spt_o (by omega)).trans (hr k (by omega))) (by omega) ?_
              refine gi_top g3 ?_
              refine gi_zaloadN d_W_law_336 (show spt sh 128 (.inl (.boolean, N, 0, fun _ => none)) 128 = _ from spt_s) (by omega) ?_
              refine gi_top (hb.2 (r3 k) (by omega)) ?_
              refine gi_if_eq d_W_law_337 (tgt := 344) (by decide) (by omega) (fun hb337 => False.elim (by omega)) (fun hb337 => ?_)
              refine lf_iconst d_W_law_340 (v := Int32.ofInt ((1 : Nat) : Int)) rfl ?_
              refine lf_goto d_W_law_341 (tgt := 345) (by decide) ?_
              refine gi_zastoreN d_W_law_345 (show spt sh 128 (.inl (.boolean, N, 0, fun _ => none)) 128 = _ from spt_s) (by omega) (by omega) ?_
              refine gi_iincN d_W_law_346 rfl (by decide +kernel) (L2 := [(12, _), (11, _), (10, _), (9, _), (1, _), (0, _), (2, _), (3, _), (4, _), (5, _), (6, _), (7, _), (8, _)]) rfl ?_
              refine lf_goto d_W_law_349 (tgt := 259) (by decide) ?_
              exact nxt9 1 (by rw [hG, hpb, e2, e3]; rfl)
            | false =>
              have v3 : bn (hcl N s ni kd r2 r3 (r3 k)) = 0 := by rw [e3]; rfl
              refine lf_iload d_W_law_259 rfl ?_
              refine lf_aload d_W_law_261 rfl rfl ?_
              refine gi_len d_W_law_263 (show spt sh 128 (.inl (.boolean, N, 0, fun _ => none)) 100 = _ from (spt_o (by decide)).trans hs0) ?_
              refine gi_icmp_ge d_W_law_264 (tgt := 352) (by decide) (by omega) (fun hb264 => False.elim (by omega)) (fun hb264 => ?_)
              refine lf_aload d_W_law_267 rfl rfl ?_
              refine lf_iload d_W_law_269 rfl ?_
              refine lf_aload d_W_law_271 rfl rfl ?_
              refine lf_iload d_W_law_273 rfl ?_
              refine gi_aald (kd := 0) d_W_law_275 rfl ((spt_o (by decide)).trans hs0) (by omega) (hf k (by omega)) ?_
              refine lf_iconst d_W_law_276 (v := Int32.ofInt ((0 : Nat) : Int)) rfl ?_
              refine gi_ialoadN d_W_law_277 (show spt sh 128 (.inl (.boolean, N, 0, fun _ => none)) (101 + k) = _ from (spt_o (by omega)).trans (hr k (by omega))) (by omega) ?_
              refine gi_top g0 ?_
              refine lf_bipush d_W_law_278 (v := Int32.ofInt ((99 : Nat) : Int)) (by decide +kernel) ?_
              refine gi_icmp_eq d_W_law_280 (tgt := 340) (by decide) (by omega) (fun hb280 => False.elim (by omega)) (fun hb280 => ?_)
              refine lf_iload d_W_law_283 rfl ?_
              refine lf_iload d_W_law_285 rfl ?_
              refine gi_icmp_lt d_W_law_287 (tgt := 344) (by decide) (by omega) (fun hb287 => False.elim (by omega)) (fun hb287 => ?_)
              refine lf_aload d_W_law_290 rfl rfl ?_
              refine lf_aload d_W_law_292 rfl rfl ?_
              refine lf_iload d_W_law_294 rfl ?_
              refine gi_aald (kd := 0) d_W_law_296 rfl ((spt_o (by decide)).trans hs0) (by omega) (hf k (by omega)) ?_
              refine lf_iconst d_W_law_297 (v := Int32.ofInt ((2 : Nat) : Int)) rfl ?_
              refine gi_ialoadN d_W_law_298 (show spt sh 128 (.inl (.boolean, N, 0, fun _ => none)) (101 + k) = _ from (spt_o (by omega)).trans (hr k (by omega))) (by omega) ?_
              refine gi_top g2 ?_
              refine gi_zaloadN d_W_law_299 (show spt sh 128 (.inl (.boolean, N, 0, fun _ => none)) 128 = _ from spt_s) (by omega) ?_
              refine gi_top (hb.2 (r2 k) (by omega)) ?_
              refine gi_if_ne d_W_law_300 (tgt := 340) (by decide) (by omega) (fun hb300 => False.elim (by omega)) (fun hb300 => ?_)
              refine lf_aload d_W_law_303 rfl rfl ?_
              refine lf_iload d_W_law_305 rfl ?_
              refine gi_aald (kd := 0) d_W_law_307 rfl ((spt_o (by decide)).trans hs0) (by omega) (hf k (by omega)) ?_
              refine lf_iconst d_W_law_308 (v := Int32.ofInt ((0 : Nat) : Int)) rfl ?_
              refine gi_ialoadN d_W_law_309 (show spt sh 128 (.inl (.boolean, N, 0, fun _ => none)) (101 + k) = _ from (spt_o (by omega)).trans (hr k (by omega))) (by omega) ?_
              refine gi_top g0 ?_
              refine lf_bipush d_W_law_310 (v := Int32.ofInt ((98 : Nat) : Int)) (by decide +kernel) ?_
              refine gi_icmp_eq d_W_law_312 (tgt := 344) (by decide) (by omega) (fun hb312 => False.elim (by omega)) (fun hb312 => ?_)
              refine lf_aload d_W_law_315 rfl rfl ?_
              refine lf_iload d_W_law_317 rfl ?_
              refine gi_aald (kd := 0) d_W_law_319 rfl ((spt_o (by decide)).trans hs0) (by omega) (hf k (by omega)) ?_
              refine lf_iconst d_W_law_320 (v := Int32.ofInt ((0 : Nat) : Int)) rfl ?_
              refine gi_ialoadN d_W_law_321 (show spt sh 128 (.inl (.boolean, N, 0, fun _ => none)) (101 + k) = _ from (spt_o (by omega)).trans (hr k (by omega))) (by omega) ?_
              refine gi_top g0 ?_
              refine lf_bipush d_W_law_322 (v := Int32.ofInt ((118 : Nat) : Int)) (by decide +kernel) ?_
              refine gi_icmp_eq d_W_law_324 (tgt := 344) (by decide) (by omega) (fun hb324 => False.elim (by omega)) (fun hb324 => ?_)
              refine lf_aload d_W_law_327 rfl rfl ?_
              refine lf_aload d_W_law_329 rfl rfl ?_
              refine lf_iload d_W_law_331 rfl ?_
              refine gi_aald (kd := 0) d_W_law_333 rfl ((spt_o (by decide)).trans hs0) (by omega) (hf k (by omega)) ?_
              refine lf_iconst d_W_law_334 (v := Int32.ofInt ((3 : Nat) : Int)) rfl ?_
              refine gi_ialoadN d_W_law_335 (show spt sh 128 (.inl (.boolean, N, 0, fun _ => none)) (101 + k) = _ from (spt_o (by omega)).trans (hr k (by omega))) (by omega) ?_
              refine gi_top g3 ?_
              refine gi_zaloadN d_W_law_336 (show spt sh 128 (.inl (.boolean, N, 0, fun _ => none)) 128 = _ from spt_s) (by omega) ?_
              refine gi_top (hb.2 (r3 k) (by omega)) ?_
              refine gi_if_eq d_W_law_337 (tgt := 344) (by decide) (by omega) (fun hb337 => ?_) (fun hb337 => False.elim (by omega))
              refine lf_iconst d_W_law_344 (v := Int32.ofInt ((0 : Nat) : Int)) rfl ?_
              refine gi_zastoreN d_W_law_345 (show spt sh 128 (.inl (.boolean, N, 0, fun _ => none)) 128 = _ from spt_s) (by omega) (by omega) ?_
              refine gi_iincN d_W_law_346 rfl (by decide +kernel) (L2 := [(12, _), (11, _), (10, _), (9, _), (1, _), (0, _), (2, _), (3, _), (4, _), (5, _), (6, _), (7, _), (8, _)]) rfl ?_
              refine lf_goto d_W_law_349 (tgt := 259) (by decide) ?_
              exact nxt9 0 (by rw [hG, hpb, e2, e3]; rfl)
theorem law_c (hx : HX X L9 xs) {N ni c s no w : Nat} {kd : Nat → Int} {ow r2 r3 dt : Nat → Nat} {ot : Nat → Nat → Nat} (hL : LAWq sh I J N ni c s no w kd ow r2 r3 dt ot) (hfr : ∀ a, 128 ≤ a → sh a = none) (k352 : ∀ (b : Nat) (s1 : sM) (I1 : mI) (J1 : mJ), b < N → SMq s1 I1 J1 sh I J → s1 128 = some (.inl (.boolean, N, 0, fun _ => none)) → (∀ a, 129 ≤ a → s1 a = none) → (∀ j, j < N → I1 128 j = ((bn (hcl N s ni kd r2 r3 j) : Nat) : Int)) → LXf TT cl6 X mi_W_law (40 + 11) (1000 + 200 * 11) D P PX kc ks 352 [(11, .ref 128), (10, .int (Int32.ofInt ((b : Nat) : Int))), (9, .int (Int32.ofInt ((2 ^ s : Nat) : Int))), (1, .ref 0), (0, .retAddr 1), (2, .int (Int32.ofInt ((1 : Nat) : Int))), (3, .int (Int32.ofInt ((ni : Nat) : Int))), (4, .int (Int32.ofInt ((c : Nat) : Int))), (5, .ref 100), (6, .int (Int32.ofInt ((s : Nat) : Int))), (7, .ref 124), (8, .ref 125)] [] (hp s1 I1 J1)) : LXf TT cl6 X mi_W_law (40 + 11) (1000 + 200 * 11) D P PX (kc + 1) (ks + 23) 231 [(1, .ref 0), (0, .retAddr 1), (2, .int (Int32.ofInt ((1 : Nat) : Int))), (3, .int (Int32.ofInt ((ni : Nat) : Int))), (4, .int (Int32.ofInt ((c : Nat) : Int))), (5, .ref 100), (6, .int (Int32.ofInt ((s : Nat) : Int))), (7, .ref 124), (8, .ref 125)] [] (hp sh I J) := by
  obtain ⟨hrk, hrw, hSH, hC, hk3, h124, h125, h126, hd5, ho5, hcs, hsw⟩ := id hL
  obtain ⟨ki, kc9, kg, hni1, hnis, hsN, hN23, hs7⟩ := id hrk
  obtain ⟨⟨f, hs0, hf⟩, hr, hR⟩ := id hrw
  have hM := hSH.1
  have hp7 := pow2_7 hs7
  have hp0 := Nat.two_pow_pos s
  refine lf_iconst d_W_law_231 (v := Int32.ofInt ((1 : Nat) : Int)) rfl ?_
  refine lf_iload d_W_law_232 rfl ?_
  refine gi_ishlN (a := 1) (s := s) d_W_law_234 (by omega) ?_
  refine gi_top (show ((1 * 2 ^ s : Nat) : Int) = ((2 ^ s : Nat) : Int) by rw [Nat.one_mul]) ?_
  refine lf_istore d_W_law_235 (by decide +kernel) (L2 := [(9, _), (1, _), (0, _), (2, _), (3, _), (4, _), (5, _), (6, _), (7, _), (8, _)]) rfl ?_
  refine lf_aload_n d_W_law_237 rfl rfl rfl ?_
  refine lf_sipush d_W_law_238 (v := Int32.ofInt ((340 : Nat) : Int)) (by decide +kernel) ?_
  refine lf_aload d_W_law_241 rfl rfl ?_
  refine gi_len d_W_law_243 hs0 ?_
  refine gw_callI s_W_law_244 (w_in hx (i := 340) (n := N) (by omega) (by omega) (by omega)) (S := []) rfl rfl gcR_1 (by decide) (by decide +kernel) (Nat.le_of_ble_eq_true rfl) (fun r244 I244 J244 w244 => ?_)
  obtain ⟨⟨b, hb9, rfl⟩, hi9, hj9⟩ := w244
  rw [hi9, hj9]
  clear hi9 hj9
  refine lf_istore d_W_law_247 (by decide +kernel) (L2 := [(10, _), (9, _), (1, _), (0, _), (2, _), (3, _), (4, _), (5, _), (6, _), (7, _), (8, _)]) rfl ?_
  refine lf_aload d_W_law_249 rfl rfl ?_
  refine gi_len d_W_law_251 hs0 ?_
  refine gi_newB_boolean d_W_law_252 tA_boolean (m := N) (B := 23) (q := 128) (by omega) (by decide) (hfr 128 (by decide)) ?_
  refine lf_astore d_W_law_254 (by decide +kernel) rfl (L2 := [(11, _), (10, _), (9, _), (1, _), (0, _), (2, _), (3, _), (4, _), (5, _), (6, _), (7, _), (8, _)]) rfl ?_
  refine lf_iconst d_W_law_256 (v := Int32.ofInt ((0 : Nat) : Int)) rfl ?_
  refine lf_istore d_W_law_257 (by decide +kernel) (L2 := [(12, _), (11, _), (10, _), (9, _), (1, _), (0, _), (2, _), (3, _), (4, _), (5, _), (6, _), (7, _), (8, _)]) rfl ?_
  refine law_c_l hx hL (b := b) (fun I1 hb => ?_) N 0 _ (by omega) ⟨fun a ha => izr_o ha, fun j hj => absurd hj (Nat.not_lt_zero j)⟩
  exact k352 b _ _ _ hb9 (fun a ha => ⟨spt_o (by omega), hb.1 a (by omega), jzr_o (by omega)⟩) spt_s (fun a ha => (spt_o (by omega)).trans (hfr a (by omega))) hb.2
/-- the rows of values -/
def VAq (sh : sM) (I : mI) (N s n : Nat) (kd : Nat → Int) (r2 r3 : Nat → Nat) : Prop :=
  (∃ f : Nat → Option Nat, sh 129 = some (.inl (.array .int, 2 ^ s, 2, f)) ∧ ∀ j, j < n → f j = some (200 + j)) ∧ (∀ j, j < n → sh (200 + j) = some (.inl (.int, N, 0, fun _ => none))) ∧ ∀ j k, j < n → k < N → I (200 + j) k = ((bn (vlw N s kd r2 r3 j k) : Nat) : Int)
def VBq (s0 : sM) (I0 : mI) (J0 : mJ) (sh : sM) (I : mI) (J : mJ) (N s n : Nat) (kd : Nat → Int) (r2 r3 : Nat → Nat) : Prop :=
  VAq sh I N s n kd r2 r3 ∧ (∀ a, a < 129 → sh a = s0 a ∧ I a = I0 a ∧ J a = J0 a) ∧ (∀ a, 130 ≤ a → (a < 200 ∨ 200 + n ≤ a) → sh a = none)
theorem VB_s {s0 : sM} {I0 I1 : mI} {J0 : mJ} {N s n : Nat} {kd : Nat → Int} {r2 r3 : Nat → Nat} {f : Nat → Option Nat} (h : VBq s0 I0 J0 sh I J N s n kd r2 r3) (hf : sh 129 = some (.inl (.array .int, 2 ^ s, 2, f))) (hI : ∀ a, ¬ a = 200 + n → I1 a = I a) (hv : ∀ k, k < N → I1 (200 + n) k = ((bn (vlw N s kd r2 r3 n k) : Nat) : Int)) :
    VBq s0 I0 J0 (spt (spt sh (200 + n) (.inl (.int, N, 0, fun _ => none))) 129 (.inl (.array .int, 2 ^ s, 2, va_up f n (some (200 + n))))) I1 (jzr J (200 + n)) N s (n + 1) kd r2 r3 := by
  obtain ⟨⟨⟨f2, g1, g2⟩, h2, h3⟩, h4, h5⟩ := h
  have ef : f2 = f := by
    rw [hf] at g1
    cases g1
    rfl
  subst ef
  refine ⟨⟨⟨_, spt_s, fun j hj => ?_⟩, fun j hj => ?_, fun j k hj hk => ?_⟩, fun a ha => ⟨?_, ?_, ?_⟩, fun a h1 h2 => ?_⟩
  · unfold va_up
    by_cases q : j = n
    · rw [if_pos q, q]
    · rw [if_neg q]; exact g2 j (by omega)
  · rw [spt_o (by omega)]
    by_cases q : j = n
    · rw [q]; exact spt_s
    · rw [spt_o (by omega)]; exact h2 j (by omega)
  · by_cases q : j = n
    · rw [q]; exact hv k hk
    · rw [hI (200 + j) (by omega)]; exact h3 j k (by omega) hk
  · rw [spt_o (by omega), spt_o (by omega)]; exact (h4 a ha).1
  · rw [hI a (by omega)]; exact (h4 a ha).2.1
  · rw [jzr_o (by omega)]; exact (h4 a ha).2.2
  · rw [spt_o (by omega), spt_o (by omega)]; exact h5 a h1 (by omega)
theorem law_d_i (hx : HX X L9 xs) {ch N ni c s no w : Nat} {kd : Nat → Int} {ow r2 r3 dt : Nat → Nat} {ot : Nat → Nat → Nat} (hL : LAWq sh I J N ni c s no w kd ow r2 r3 dt ot) (hin : INq I J s w) (hva : VAq sh I N s (ch + 1) kd r2 r3) {b : Nat} (hch : ch < 2 ^ s) (k442 : LXf TT cl6 X mi_W_law (40 + 11) (1000 + 200 * 11) D P PX kc ks 442 [(13, .int (Int32.ofInt ((cb (fun q => vlw N s kd r2 r3 q b) (ch + 1) : Nat) : Int))), (14, .int (Int32.ofInt ((ch : Nat) : Int))), (12, .ref 129), (11, .ref 128), (10, .int (Int32.ofInt ((b : Nat) : Int))), (9, .int (Int32.ofInt ((2 ^ s : Nat) : Int))), (1, .ref 0), (0, .retAddr 1), (2, .int (Int32.ofInt ((1 : Nat) : Int))), (3, .int (Int32.ofInt ((ni : Nat) : Int))), (4, .int (Int32.ofInt ((c : Nat) : Int))), (5, .ref 100), (6, .int (Int32.ofInt ((s : Nat) : Int))), (7, .ref 124), (8, .ref 125)] [] (hp sh I J)) : ∀ (d k : Nat), k + d = N → LXf TT cl6 X mi_W_law (40 + 11) (1000 + 200 * 11) D P PX kc ks 401 [(15, .int (Int32.ofInt ((k : Nat) : Int))), (13, .int (Int32.ofInt ((cb (fun q => vlw N s kd r2 r3 q b) (ch + 1) : Nat) : Int))), (14, .int (Int32.ofInt ((ch : Nat) : Int))), (12, .ref 129), (11, .ref 128), (10, .int (Int32.ofInt ((b : Nat) : Int))), (9, .int (Int32.ofInt ((2 ^ s : Nat) : Int))), (1, .ref 0), (0, .retAddr 1), (2, .int (Int32.ofInt ((1 : Nat) : Int))), (3, .int (Int32.ofInt ((ni : Nat) : Int))), (4, .int (Int32.ofInt ((c : Nat) : Int))), (5, .ref 100), (6, .int (Int32.ofInt ((s : Nat) : Int))), (7, .ref 124), (8, .ref 125)] [] (hp sh I J) := by
  obtain ⟨hrk, hrw, hSH, hC, hk3, h124, h125, h126, hd5, ho5, hcs, hsw⟩ := id hL
  obtain ⟨ki, kc9, kg, hni1, hnis, hsN, hN23, hs7⟩ := id hrk
  obtain ⟨⟨f, hs0, hf⟩, hr, hR⟩ := id hrw
  have hM := hSH.1
  have hp7 := pow2_7 hs7
  have hp0 := Nat.two_pow_pos s
  obtain ⟨⟨fv, hv1, hv2⟩, hv3, hv4⟩ := hva
  have hth := TH_0 (I := I) (J := J) hrk hk3 hC.2.2.2.2.1 hsw hin.2.1.2.2.1 hin.2.1.2.2.2
  intro d
  induction d with
  | zero =>
    intro k hd
    obtain rfl : N = k := by omega
    refine lf_iload d_W_law_401 rfl ?_
    refine lf_aload d_W_law_403 rfl rfl ?_
    refine gi_len d_W_law_405 hs0 ?_
    refine gi_icmp_ge d_W_law_406 (tgt := 442) (by decide) (by omega) (fun hb406 => ?_) (fun hb406 => False.elim (by omega))
    refine lf_sub [1, 2, 3, 4, 5, 6, 7, 8, 9, 10, 11, 12, 13, 14, 15] rfl ?_
    exact k442
  | succ d ih =>
    intro k hd
    have hbv := hbit_vl hth (k := k) (c := ch) (by omega) hch
    refine lf_iload d_W_law_401 rfl ?_
    refine lf_aload d_W_law_403 rfl rfl ?_
    refine gi_len d_W_law_405 hs0 ?_
    refine gi_icmp_ge d_W_law_406 (tgt := 442) (by decide) (by omega) (fun hb406 => False.elim (by omega)) (fun hb406 => ?_)
    refine lf_iload_n d_W_law_409 rfl rfl ?_
    refine lf_aload_n d_W_law_410 rfl rfl rfl ?_
    refine lf_iload d_W_law_411 rfl ?_
    refine lf_iload d_W_law_413 rfl ?_
    refine gw_callI s_W_law_415 (wI_value hx hM (EVp_i (m_value hx hSH hC (k := k) (c := ch) (by omega) hch)) (lev := 10) (by decide)) (S := [_]) rfl rfl gcR_1 (by decide) (by decide +kernel) (Nat.le_of_ble_eq_true rfl) (fun r415 I415 J415 w415 => ?_)
    obtain ⟨hr9, hi9, hj9⟩ := w415
    rw [hr9, hi9, hj9, hbv, bz_bn]
    clear hr9 hi9 hj9
    refine lf_aload d_W_law_418 rfl rfl ?_
    refine lf_iload d_W_law_420 rfl ?_
    refine gi_aald (kd := 0) d_W_law_422 rfl hv1 (by omega) (hv2 ch (by omega)) ?_
    refine lf_iload d_W_law_423 rfl ?_
    refine gi_ialoadN d_W_law_425 (hv3 ch (by omega)) (by omega) ?_
    refine gi_top (hv4 ch k (by omega) (by omega)) ?_
    refine gi_icmp_ne d_W_law_426 (tgt := 433) (by decide) (by have := bn_le (vlw N s kd r2 r3 ch k); omega) (fun hb426 => False.elim (by omega)) (fun hb426 => ?_)
    refine lf_iconst d_W_law_429 (v := Int32.ofInt ((1 : Nat) : Int)) rfl ?_
    refine lf_goto d_W_law_430 (tgt := 434) (by decide) ?_
    refine gi_iandN (a := 1) (b := 1) d_W_law_434 ?_
    refine gi_top rfl ?_
    refine lf_istore_n d_W_law_435 rfl (by decide +kernel) (L2 := [(2, _), (15, _), (13, _), (14, _), (12, _), (11, _), (10, _), (9, _), (1, _), (0, _), (3, _), (4, _), (5, _), (6, _), (7, _), (8, _)]) rfl ?_
    refine gi_iincN d_W_law_436 rfl (by decide +kernel) (L2 := [(15, _), (2, _), (13, _), (14, _), (12, _), (11, _), (10, _), (9, _), (1, _), (0, _), (3, _), (4, _), (5, _), (6, _), (7, _), (8, _)]) rfl ?_
    refine lf_goto d_W_law_439 (tgt := 401) (by decide) ?_
    refine lf_sub [0, 2, 3, 4, 5, 6, 7, 8, 9, 1, 10, 11, 12, 13, 14, 15] rfl ?_
    exact ih (k + 1) (by omega)
theorem law_d_o (hx : HX X L9 xs) {N ni c s no w : Nat} {kd : Nat → Int} {ow r2 r3 dt : Nat → Nat} {ot : Nat → Nat → Nat} (hL : LAWq sh I J N ni c s no w kd ow r2 r3 dt ot) (hin : INq I J s w) (h128 : sh 128 = some (.inl (.boolean, N, 0, fun _ => none))) {b : Nat} (hb9 : b < N) (k448 : ∀ (s1 : sM) (I1 : mI) (J1 : mJ), VBq sh I J s1 I1 J1 N s (2 ^ s) kd r2 r3 → LXf TT cl6 X mi_W_law (40 + 11) (1000 + 200 * 11) D P PX kc ks 448 [(13, .int (Int32.ofInt ((cb (fun q => vlw N s kd r2 r3 q b) (2 ^ s) : Nat) : Int))), (12, .ref 129), (11, .ref 128), (10, .int (Int32.ofInt ((b : Nat) : Int))), (9, .int (Int32.ofInt ((2 ^ s : Nat) : Int))), (1, .ref 0), (0, .retAddr 1), (2, .int (Int32.ofInt ((1 : Nat) : Int))), (3, .int (Int32.ofInt ((ni : Nat) : Int))), (4, .int (Int32.ofInt ((c : Nat) : Int))), (5, .ref 100), (6, .int (Int32.ofInt ((s : Nat) : Int))), (7, .ref 124), (8, .ref 125)] [] (hp s1 I1 J1)) : ∀ (d ch : Nat) (s1 : sM) (I1 : mI) (J1 : mJ), ch + d = 2 ^ s → VBq sh I J s1 I1 J1 N s ch kd r2 r3 → LXf TT cl6 X mi_W_law (40 + 11) (1000 + 200 * 11) D P PX (d + kc) (23 * d + ks) 365 [(14, .int (Int32.ofInt ((ch : Nat) : Int))), (13, .int (Int32.ofInt ((cb (fun q => vlw N s kd r2 r3 q b) (ch) : Nat) : Int))), (12, .ref 129), (11, .ref 128), (10, .int (Int32.ofInt ((b : Nat) : Int))), (9, .int (Int32.ofInt ((2 ^ s : Nat) : Int))), (1, .ref 0), (0, .retAddr 1), (2, .int (Int32.ofInt ((1 : Nat) : Int))), (3, .int (Int32.ofInt ((ni : Nat) : Int))), (4, .int (Int32.ofInt ((c : Nat) : Int))), (5, .ref 100), (6, .int (Int32.ofInt ((s : Nat) : Int))), (7, .ref 124), (8, .ref 125)] [] (hp s1 I1 J1) := by
  intro d
  induction d with
  | zero =>
    intro ch s1 I1 J1 hd hvb
    have hch : ch = 2 ^ s := by omega
    obtain ⟨⟨⟨fv, hv1, hv2⟩, hv3, hv4⟩, hold, hfre⟩ := id hvb
    have hsm : SMq s1 I1 J1 sh I J := fun a ha => hold a (by omega)
    have hL1 := LAW_S hsm hL
    have h128 := (hold 128 (by decide)).1.trans h128
    obtain ⟨hrk, hrw, hSH, hC, hk3, h124, h125, h126, hd5, ho5, hcs, hsw⟩ := id hL1
    obtain ⟨ki, kc9, kg, hni1, hnis, hsN, hN23, hs7⟩ := id hrk
    obtain ⟨⟨f, hs0, hf⟩, hr, hR⟩ := id hrw
    have hM := hSH.1
    have hp7 := pow2_7 hs7
    have hp0 := Nat.two_pow_pos s
    refine lf_room (kc1 := kc) (ks1 := ks) (by omega) (by omega) ?_
    refine lf_iload d_W_law_365 rfl ?_
    refine lf_iload d_W_law_367 rfl ?_
    refine gi_icmp_ge d_W_law_369 (tgt := 448) (by decide) (by omega) (fun hb369 => ?_) (fun hb369 => False.elim (by omega))
    refine lf_sub [1, 2, 3, 4, 5, 6, 7, 8, 9, 10, 11, 12, 13, 14] rfl ?_
    subst hch
    exact k448 s1 I1 J1 hvb
  | succ d ih =>
    intro ch s1 I1 J1 hd hvb
    have hch : ch < 2 ^ s := by omega
    obtain ⟨⟨⟨fv, hv1, hv2⟩, hv3, hv4⟩, hold, hfre⟩ := id hvb
    have hsm : SMq s1 I1 J1 sh I J := fun a ha => hold a (by omega)
    have hL1 := LAW_S hsm hL
    have h128 := (hold 128 (by decide)).1.trans h128
    obtain ⟨hrk, hrw, hSH, hC, hk3, h124, h125, h126, hd5, ho5, hcs, hsw⟩ := id hL1
    obtain ⟨ki, kc9, kg, hni1, hnis, hsN, hN23, hs7⟩ := id hrk
    obtain ⟨⟨f, hs0, hf⟩, hr, hR⟩ := id hrw
    have hM := hSH.1
    have hp7 := pow2_7 hs7
    have hp0 := Nat.two_pow_pos s
    refine lf_room (kc1 := 1 + (d + kc)) (ks1 := 23 + (23 * d + ks)) (by omega) (by omega) ?_
    refine lf_iload d_W_law_365 rfl ?_
    refine lf_iload d_W_law_367 rfl ?_
    refine gi_icmp_ge d_W_law_369 (tgt := 448) (by decide) (by omega) (fun hb369 => False.elim (by omega)) (fun hb369 => ?_)
    refine lf_aload d_W_law_372 rfl rfl ?_
    refine lf_iload d_W_law_374 rfl ?_
    refine lf_aload d_W_law_376 rfl rfl ?_
    refine lf_iload_n d_W_law_378 rfl rfl ?_
    refine lf_iload d_W_law_379 rfl ?_
    refine gw_callA s_W_law_381 (w_valuesBy hx hrw hrk (q := 200 + ch) (m := ni) (c := ch) (by omega) (hfre _ (by omega) (by omega)) (by omega)) (S := [_, _]) rfl rfl rfl rfl gcR_1 (by decide) (by decide +kernel) (Nat.le_of_ble_eq_true rfl) (fun v s2 I2 J2 w381 _ => ?_)
    obtain ⟨rfl, es2, eJ2, hI2, hv5⟩ := w381
    rw [es2, eJ2]
    refine gi_aastI d_W_law_384 (show (spt s1 (200 + ch) (.inl (.int, N, 0, fun _ => none))) 129 = _ from (spt_o (by omega)).trans hv1) (show (spt s1 (200 + ch) (.inl (.int, N, 0, fun _ => none))) (200 + ch) = _ from spt_s) (by omega) ?_
    have hvb2 := VB_s hvb hv1 hI2 hv5
    refine lf_iload d_W_law_385 rfl ?_
    refine lf_aload d_W_law_387 rfl rfl ?_
    refine lf_iload d_W_law_389 rfl ?_
    obtain ⟨s3, es3⟩ : ∃ q : sM, q = spt (spt s1 (200 + ch) (.inl (.int, N, 0, fun _ => none))) 129 (.inl (.array .int, 2 ^ s, 2, va_up fv ch (some (200 + ch)))) := ⟨_, rfl⟩
    rw [← es3] at hvb2 ⊢
    obtain ⟨⟨⟨fw, hw1, hw2⟩, hw3, hw4⟩, hold3, hfre3⟩ := id hvb2
    refine gi_aald (kd := 0) d_W_law_391 rfl hw1 (by omega) (hw2 ch (by omega)) ?_
    refine lf_iload d_W_law_392 rfl ?_
    refine gi_ialoadN d_W_law_394 (hw3 ch (by omega)) (by omega) ?_
    refine gi_top (hw4 ch b (by omega) hb9) ?_
    refine gi_iaddN (a := (cb (fun q => vlw N s kd r2 r3 q b) (ch))) (b := (bn (vlw N s kd r2 r3 ch b))) d_W_law_395 ?_
    refine gi_top (show ((cb (fun q => vlw N s kd r2 r3 q b) ch + bn (vlw N s kd r2 r3 ch b) : Nat) : Int) = ((cb (fun q => vlw N s kd r2 r3 q b) (ch + 1) : Nat) : Int) from rfl) ?_
    refine lf_istore d_W_law_396 (by decide +kernel) (L2 := [(13, _), (14, _), (12, _), (11, _), (10, _), (9, _), (1, _), (0, _), (2, _), (3, _), (4, _), (5, _), (6, _), (7, _), (8, _)]) rfl ?_
    refine lf_iconst d_W_law_398 (v := Int32.ofInt ((0 : Nat) : Int)) rfl ?_
    refine lf_istore d_W_law_399 (by decide +kernel) (L2 := [(15, _), (13, _), (14, _), (12, _), (11, _), (10, _), (9, _), (1, _), (0, _), (2, _), (3, _), (4, _), (5, _), (6, _), (7, _), (8, _)]) rfl ?_
    have hsm3 : SMq s3 I2 (jzr J1 (200 + ch)) sh I J := fun a ha => hold3 a (by omega)
    refine law_d_i hx (LAW_S hsm3 hL) (IN_S hsm3 hin) hvb2.1 hch ?_ N 0 (by omega)
    refine gi_iincN d_W_law_442 rfl (by decide +kernel) (L2 := [(14, _), (13, _), (12, _), (11, _), (10, _), (9, _), (1, _), (0, _), (2, _), (3, _), (4, _), (5, _), (6, _), (7, _), (8, _)]) rfl ?_
    refine lf_goto d_W_law_445 (tgt := 365) (by decide) ?_
    exact ih (ch + 1) s3 I2 _ (by omega) hvb2
theorem law_d (hx : HX X L9 xs) {N ni c s no w : Nat} {kd : Nat → Int} {ow r2 r3 dt : Nat → Nat} {ot : Nat → Nat → Nat} (hL : LAWq sh I J N ni c s no w kd ow r2 r3 dt ot) (hin : INq I J s w) (h128 : sh 128 = some (.inl (.boolean, N, 0, fun _ => none))) (hfr : ∀ a, 129 ≤ a → sh a = none) {b : Nat} (hb9 : b < N) (k448 : ∀ (s1 : sM) (I1 : mI) (J1 : mJ), VBq sh I J s1 I1 J1 N s (2 ^ s) kd r2 r3 → LXf TT cl6 X mi_W_law (40 + 11) (1000 + 200 * 11) D P PX kc ks 448 [(13, .int (Int32.ofInt ((cb (fun q => vlw N s kd r2 r3 q b) (2 ^ s) : Nat) : Int))), (12, .ref 129), (11, .ref 128), (10, .int (Int32.ofInt ((b : Nat) : Int))), (9, .int (Int32.ofInt ((2 ^ s : Nat) : Int))), (1, .ref 0), (0, .retAddr 1), (2, .int (Int32.ofInt ((1 : Nat) : Int))), (3, .int (Int32.ofInt ((ni : Nat) : Int))), (4, .int (Int32.ofInt ((c : Nat) : Int))), (5, .ref 100), (6, .int (Int32.ofInt ((s : Nat) : Int))), (7, .ref 124), (8, .ref 125)] [] (hp s1 I1 J1)) : LXf TT cl6 X mi_W_law (40 + 11) (1000 + 200 * 11) D P PX (kc + 200) (ks + 4000) 352 [(11, .ref 128), (10, .int (Int32.ofInt ((b : Nat) : Int))), (9, .int (Int32.ofInt ((2 ^ s : Nat) : Int))), (1, .ref 0), (0, .retAddr 1), (2, .int (Int32.ofInt ((1 : Nat) : Int))), (3, .int (Int32.ofInt ((ni : Nat) : Int))), (4, .int (Int32.ofInt ((c : Nat) : Int))), (5, .ref 100), (6, .int (Int32.ofInt ((s : Nat) : Int))), (7, .ref 124), (8, .ref 125)] [] (hp sh I J) := by
  obtain ⟨hrk, hrw, hSH, hC, hk3, h124, h125, h126, hd5, ho5, hcs, hsw⟩ := id hL
  obtain ⟨ki, kc9, kg, hni1, hnis, hsN, hN23, hs7⟩ := id hrk
  obtain ⟨⟨f, hs0, hf⟩, hr, hR⟩ := id hrw
  have hM := hSH.1
  have hp7 := pow2_7 hs7
  have hp0 := Nat.two_pow_pos s
  refine lf_room (kc1 := (2 ^ s + kc) + 1) (ks1 := (23 * 2 ^ s + ks) + 128) (by omega) (by omega) ?_
  refine lf_iload d_W_law_352 rfl ?_
  refine gi_anewI (m := 2 ^ s) (B := 128) (q := 129) d_W_law_354 rfl (by omega) (by decide) (hfr 129 (by decide)) ?_
  refine lf_astore d_W_law_357 (by decide +kernel) rfl (L2 := [(12, _), (11, _), (10, _), (9, _), (1, _), (0, _), (2, _), (3, _), (4, _), (5, _), (6, _), (7, _), (8, _)]) rfl ?_
  refine lf_iconst d_W_law_359 (v := Int32.ofInt ((0 : Nat) : Int)) rfl ?_
  refine lf_istore d_W_law_360 (by decide +kernel) (L2 := [(13, _), (12, _), (11, _), (10, _), (9, _), (1, _), (0, _), (2, _), (3, _), (4, _), (5, _), (6, _), (7, _), (8, _)]) rfl ?_
  refine lf_iconst d_W_law_362 (v := Int32.ofInt ((0 : Nat) : Int)) rfl ?_
  refine lf_istore d_W_law_363 (by decide +kernel) (L2 := [(14, _), (13, _), (12, _), (11, _), (10, _), (9, _), (1, _), (0, _), (2, _), (3, _), (4, _), (5, _), (6, _), (7, _), (8, _)]) rfl ?_
  refine law_d_o hx hL hin h128 hb9 k448 (2 ^ s) 0 _ _ _ (by omega) ⟨⟨⟨_, spt_s, fun j hj => absurd hj (Nat.not_lt_zero j)⟩, fun j hj => absurd hj (Nat.not_lt_zero j), fun j k hj => absurd hj (Nat.not_lt_zero j)⟩, fun a ha => ⟨spt_o (by omega), izr_o (by omega), jzr_o (by omega)⟩, fun a h1 h2 => (spt_o (by omega)).trans (hfr a (by omega))⟩
end LA2
