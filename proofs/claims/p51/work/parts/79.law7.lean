section LA7
variable {X : XT} {L9 : Nat} {xs : Nat → Int32} {sh : sM} {I : mI} {J : mJ}

variable {D : mF} {P : Option Value → mF → Prop} {PX : String → mF → Prop} {kc ks : Nat}

def duF (b : BST) (x ch : Nat) : Nat → Nat | 0 => ch | i + 1 => bB b (it (bF b) i x)
theorem TRC_du {b : BST} {x ch : Nat} (h : TRC I b x ch) {i : Nat} (hi : i ≤ bD b x) : I 41 (bD b x - i) = ((duF b x ch i : Nat) : Int) := by
  cases i with
  | zero => exact h.1
  | succ i =>
    have := h.2 i (by omega)
    rw [show bD b x - 1 - i = bD b x - (i + 1) by omega] at this
    exact this
theorem law_k_t (hx : HX X L9 xs) {N ni c s no w : Nat} {kd : Nat → Int} {ow r2 r3 dt : Nat → Nat} {ot : Nat → Nat → Nat} {bar : Int} (hst : STq sh I J N ni c s no w kd ow r2 r3 dt ot bar) (h134 : sh 134 = some (.inl (.int, 2 ^ (s - ni), 0, fun _ => none))) (h135 : sh 135 = some (.inl (.int, 2 ^ (s - ni), 0, fun _ => none))) {bb : BST} (hBI : BI (KP J) (NX J w s ni dt) (UL J w s ni ot no) (2 ^ ni) (fst r2 s ni) (2 ^ (s - ni)) bb) (hlb : LBq I bb (2 ^ (s - ni)) (fst r2 s ni)) {x ch : Nat} {len : Int} (hX : bX bb = some (x, ch)) (htr : TRC I bb x ch) (hda : I 24 15 = ((bD bb x : Nat) : Int)) (hsd : I 24 13 = I 15 9) (k1432 : LXf TT cl6 X mi_W_law (40 + 11) (1000 + 200 * 11) D P PX kc ks 1432 [(26, .int (Int32.ofInt (len))), (19, .int (Int32.ofInt ((fst r2 s ni : Nat) : Int))), (18, .ref 132), (17, .ref 131), (16, .int (Int32.ofInt ((2 ^ (s - ni) : Nat) : Int))), (15, .ref 130), (12, .ref 129), (9, .int (Int32.ofInt ((2 ^ s : Nat) : Int))), (1, .ref 0), (0, .retAddr 1), (2, .int (Int32.ofInt ((1 : Nat) : Int))), (3, .int (Int32.ofInt ((ni : Nat) : Int))), (4, .int (Int32.ofInt ((c : Nat) : Int))), (5, .ref 100), (6, .int (Int32.ofInt ((s : Nat) : Int))), (7, .ref 124), (8, .ref 125)] [] (hp sh I J)) : ∀ (d i : Nat) (z : Int), i + d = bD bb x → z = ((bD bb x : Nat) : Int) - (i : Int) → LXf TT cl6 X mi_W_law (40 + 11) (1000 + 200 * 11) D P PX kc ks 1388 [(29, .int (Int32.ofInt (z))), (28, .int (Int32.ofInt ((duF bb x ch i : Nat) : Int))), (27, .int (Int32.ofInt ((it (bF bb) i x : Nat) : Int))), (22, .ref 135), (21, .ref 134), (26, .int (Int32.ofInt (len))), (19, .int (Int32.ofInt ((fst r2 s ni : Nat) : Int))), (18, .ref 132), (17, .ref 131), (16, .int (Int32.ofInt ((2 ^ (s - ni) : Nat) : Int))), (15, .ref 130), (12, .ref 129), (9, .int (Int32.ofInt ((2 ^ s : Nat) : Int))), (1, .ref 0), (0, .retAddr 1), (2, .int (Int32.ofInt ((1 : Nat) : Int))), (3, .int (Int32.ofInt ((ni : Nat) : Int))), (4, .int (Int32.ofInt ((c : Nat) : Int))), (5, .ref 100), (6, .int (Int32.ofInt ((s : Nat) : Int))), (7, .ref 124), (8, .ref 125)] [] (hp sh I J) := by
  have hL := hst.1
  obtain ⟨hrk, hrw, hSH, hC, hk3, h124, h125, h126, hd5, ho5, hcs, hsw⟩ := id hL
  obtain ⟨ki, kc9, kg, hni1, hnis, hsN, hN23, hs7⟩ := id hrk
  obtain ⟨⟨f, hs0, hf⟩, hr, hR⟩ := id hrw
  have hM := hSH.1
  have hp7 := pow2_7 hs7
  have hp0 := Nat.two_pow_pos s
  obtain ⟨⟨fv, hv1, hv2⟩, hv3, hv4⟩ := hst.2.1
  have hth := hst.2.2.1
  have hkb := hth.2.2.2.2.2.1
  have hp9 := pow2_7 (s := s - ni) (by omega)
  have hni8 : 2 ^ ni ≤ 8 := Nat.pow_le_pow_right (n := 2) (by decide) hcs.2.1
  have hXb := hBI.2.2.2.2.2.2 x ch hX
  have hcB : bCnt bb ≤ 2 ^ (s - ni) := by rw [hBI.2.2.1]; exact cb_le _
  have hdx := (hBI.2.2.2.2.2.1 x hXb.1).1
  have hr9 := hst.2.2.2.2.2
  intro d
  induction d with
  | zero =>
    intro i z hd hz
    have hdu : duF bb x ch i < 2 ^ ni := by
      cases i with
      | zero => exact hXb.2.1
      | succ i => exact (hBI.2.2.2.2.2.1 _ (it_sn hBI hXb.1 i)).2.1
    have hyS := it_sn hBI hXb.1 i
    have hyl := hBI.2.1 _ hyS
    have hdep := it_d hBI i x hXb.1 (by omega)
    refine lf_iload d_W_law_1388 rfl ?_
    refine gi_if_lt d_W_law_1390 (tgt := 1432) (by decide) (by omega) (fun hb1390 => False.elim (by omega)) (fun hb1390 => ?_)
    refine lf_iload_n d_W_law_1393 rfl rfl ?_
    refine lf_aload_n d_W_law_1394 rfl rfl rfl ?_
    refine lf_iload d_W_law_1395 rfl ?_
    refine gi_top (show z = ((bD bb x - i : Nat) : Int) from by omega) ?_
    refine gw_callI s_W_law_1397 (wI_trace hx hM (EVp_i (m_trace hx hSH hC hsd (by omega) (k := bD bb x - i) hda (by omega) (by omega))) (lev := 10) (by decide)) (S := [_]) rfl rfl gcR_1 (by decide) (by decide +kernel) (Nat.le_of_ble_eq_true rfl) (fun r1397 I1397 J1397 w1397 => ?_)
    obtain ⟨hr, hi9, hj9⟩ := w1397
    rw [hr, hi9, hj9, TRC_du htr (by omega)]
    clear hr hi9 hj9
    refine lf_iload d_W_law_1400 rfl ?_
    refine gi_icmp_ne d_W_law_1402 (tgt := 1409) (by decide) (by omega) (fun hb1402 => False.elim (by omega)) (fun hb1402 => ?_)
    refine lf_iconst d_W_law_1405 (v := Int32.ofInt ((1 : Nat) : Int)) rfl ?_
    refine lf_goto d_W_law_1406 (tgt := 1410) (by decide) ?_
    refine gi_iandN (a := 1) (b := 1) d_W_law_1410 ?_
    refine gi_top rfl ?_
    refine lf_istore_n d_W_law_1411 rfl (by decide +kernel) (L2 := [(2, _), (29, _), (28, _), (27, _), (22, _), (21, _), (26, _), (19, _), (18, _), (17, _), (16, _), (15, _), (12, _), (9, _), (1, _), (0, _), (3, _), (4, _), (5, _), (6, _), (7, _), (8, _)]) rfl ?_
    refine lf_aload d_W_law_1412 rfl rfl ?_
    refine lf_iload d_W_law_1414 rfl ?_
    refine gi_ialoadN d_W_law_1416 h135 (by omega) ?_
    refine lf_istore d_W_law_1417 (by decide +kernel) (L2 := [(28, _), (2, _), (29, _), (27, _), (22, _), (21, _), (26, _), (19, _), (18, _), (17, _), (16, _), (15, _), (12, _), (9, _), (1, _), (0, _), (3, _), (4, _), (5, _), (6, _), (7, _), (8, _)]) rfl ?_
    refine lf_aload d_W_law_1419 rfl rfl ?_
    refine lf_iload d_W_law_1421 rfl ?_
    refine gi_ialoadN d_W_law_1423 h134 (by omega) ?_
    refine lf_istore d_W_law_1424 (by decide +kernel) (L2 := [(27, _), (28, _), (2, _), (29, _), (22, _), (21, _), (26, _), (19, _), (18, _), (17, _), (16, _), (15, _), (12, _), (9, _), (1, _), (0, _), (3, _), (4, _), (5, _), (6, _), (7, _), (8, _)]) rfl ?_
    refine gi_iinc d_W_law_1426 rfl (by decide +kernel) (L2 := [(29, _), (27, _), (28, _), (2, _), (22, _), (21, _), (26, _), (19, _), (18, _), (17, _), (16, _), (15, _), (12, _), (9, _), (1, _), (0, _), (3, _), (4, _), (5, _), (6, _), (7, _), (8, _)]) rfl ?_
    refine lf_goto d_W_law_1429 (tgt := 1388) (by decide) ?_
    refine lf_sub [0, 1, 2, 4, 5, 6, 7, 8, 9, 10, 11, 12, 13, 14, 15, 3, 16, 17, 18, 19, 20, 21] rfl ?_
    refine lf_iload d_W_law_1388 rfl ?_
    refine gi_if_lt d_W_law_1390 (tgt := 1432) (by decide) (by omega) (fun hb1390 => ?_) (fun hb1390 => False.elim (by omega))
    refine lf_sub [5, 6, 7, 8, 9, 10, 11, 12, 13, 14, 15, 16, 17, 18, 19, 20, 21] rfl ?_
    exact k1432
  | succ d ih =>
    intro i z hd hz
    have hdu : duF bb x ch i < 2 ^ ni := by
      cases i with
      | zero => exact hXb.2.1
      | succ i => exact (hBI.2.2.2.2.2.1 _ (it_sn hBI hXb.1 i)).2.1
    have hyS := it_sn hBI hXb.1 i
    have hyl := hBI.2.1 _ hyS
    have hdep := it_d hBI i x hXb.1 (by omega)
    have hyf : ¬ it (bF bb) i x = fst r2 s ni := fun e => by
      rw [e, hBI.2.2.2.1.2.1] at hdep
      omega
    have hlv := (hlb.2.1 _ hyl hyS).2 hyf
    have e134 : I 134 (it (bF bb) i x) = ((it (bF bb) (i + 1) x : Nat) : Int) := by rw [hlv.1, it_s]
    have e135 : I 135 (it (bF bb) i x) = ((duF bb x ch (i + 1) : Nat) : Int) := hlv.2
    refine lf_iload d_W_law_1388 rfl ?_
    refine gi_if_lt d_W_law_1390 (tgt := 1432) (by decide) (by omega) (fun hb1390 => False.elim (by omega)) (fun hb1390 => ?_)
    refine lf_iload_n d_W_law_1393 rfl rfl ?_
    refine lf_aload_n d_W_law_1394 rfl rfl rfl ?_
    refine lf_iload d_W_law_1395 rfl ?_
    refine gi_top (show z = ((bD bb x - i : Nat) : Int) from by omega) ?_
    refine gw_callI s_W_law_1397 (wI_trace hx hM (EVp_i (m_trace hx hSH hC hsd (by omega) (k := bD bb x - i) hda (by omega) (by omega))) (lev := 10) (by decide)) (S := [_]) rfl rfl gcR_1 (by decide) (by decide +kernel) (Nat.le_of_ble_eq_true rfl) (fun r1397 I1397 J1397 w1397 => ?_)
    obtain ⟨hr, hi9, hj9⟩ := w1397
    rw [hr, hi9, hj9, TRC_du htr (by omega)]
    clear hr hi9 hj9
    refine lf_iload d_W_law_1400 rfl ?_
    refine gi_icmp_ne d_W_law_1402 (tgt := 1409) (by decide) (by omega) (fun hb1402 => False.elim (by omega)) (fun hb1402 => ?_)
    refine lf_iconst d_W_law_1405 (v := Int32.ofInt ((1 : Nat) : Int)) rfl ?_
    refine lf_goto d_W_law_1406 (tgt := 1410) (by decide) ?_
    refine gi_iandN (a := 1) (b := 1) d_W_law_1410 ?_
    refine gi_top rfl ?_
    refine lf_istore_n d_W_law_1411 rfl (by decide +kernel) (L2 := [(2, _), (29, _), (28, _), (27, _), (22, _), (21, _), (26, _), (19, _), (18, _), (17, _), (16, _), (15, _), (12, _), (9, _), (1, _), (0, _), (3, _), (4, _), (5, _), (6, _), (7, _), (8, _)]) rfl ?_
    refine lf_aload d_W_law_1412 rfl rfl ?_
    refine lf_iload d_W_law_1414 rfl ?_
    refine gi_ialoadN d_W_law_1416 h135 (by omega) ?_
    refine gi_top e135 ?_
    refine lf_istore d_W_law_1417 (by decide +kernel) (L2 := [(28, _), (2, _), (29, _), (27, _), (22, _), (21, _), (26, _), (19, _), (18, _), (17, _), (16, _), (15, _), (12, _), (9, _), (1, _), (0, _), (3, _), (4, _), (5, _), (6, _), (7, _), (8, _)]) rfl ?_
    refine lf_aload d_W_law_1419 rfl rfl ?_
    refine lf_iload d_W_law_1421 rfl ?_
    refine gi_ialoadN d_W_law_1423 h134 (by omega) ?_
    refine gi_top e134 ?_
    refine lf_istore d_W_law_1424 (by decide +kernel) (L2 := [(27, _), (28, _), (2, _), (29, _), (22, _), (21, _), (26, _), (19, _), (18, _), (17, _), (16, _), (15, _), (12, _), (9, _), (1, _), (0, _), (3, _), (4, _), (5, _), (6, _), (7, _), (8, _)]) rfl ?_
    refine gi_iinc d_W_law_1426 rfl (by decide +kernel) (L2 := [(29, _), (27, _), (28, _), (2, _), (22, _), (21, _), (26, _), (19, _), (18, _), (17, _), (16, _), (15, _), (12, _), (9, _), (1, _), (0, _), (3, _), (4, _), (5, _), (6, _), (7, _), (8, _)]) rfl ?_
    refine lf_goto d_W_law_1429 (tgt := 1388) (by decide) ?_
    refine lf_sub [0, 2, 1, 4, 5, 6, 7, 8, 9, 10, 11, 12, 13, 14, 15, 3, 16, 17, 18, 19, 20, 21] rfl ?_
    exact ih (i + 1) _ (by omega) (by omega)
theorem law_k (hx : HX X L9 xs) {N ni c s no w : Nat} {kd : Nat → Int} {ow r2 r3 dt : Nat → Nat} {ot : Nat → Nat → Nat} {b : Nat} {ib : Bool} {bar : Int} (hst : STq sh I J N ni c s no w kd ow r2 r3 dt ot bar) (h134 : sh 134 = some (.inl (.int, 2 ^ (s - ni), 0, fun _ => none))) (h135 : sh 135 = some (.inl (.int, 2 ^ (s - ni), 0, fun _ => none))) (h136 : sh 136 = some (.inl (.int, 2 ^ (s - ni), 0, fun _ => none))) {bb : BST} (hbb : bb = (bfs (KP J) (NX J w s ni dt) (UL J w s ni ot no) (2 ^ ni) (fst r2 s ni) (2 ^ (s - ni)))) (hlb : LBq I bb (2 ^ (s - ni)) (fst r2 s ni)) (h2412 : I 24 12 = 0) (h2413 : I 24 13 = -1) (k1432 : ∀ (len : Int) (I1 : mI), -1 ≤ len ∧ len < 1000 → STq sh I1 J N ni c s no w kd ow r2 r3 dt ot bar → SR I1 J w s ni no r2 dt ot → I1 24 13 = I1 15 9 → I1 24 15 = len → (∀ a, 41 < a → I1 a = I a) → (len = match bX bb with | none => -1 | some q => ((bD bb q.1 : Nat) : Int)) → LXf TT cl6 X mi_W_law (40 + 11) (1000 + 200 * 11) D P PX kc ks 1432 [(26, .int (Int32.ofInt (len))), (19, .int (Int32.ofInt ((fst r2 s ni : Nat) : Int))), (18, .ref 132), (17, .ref 131), (16, .int (Int32.ofInt ((2 ^ (s - ni) : Nat) : Int))), (15, .ref 130), (12, .ref 129), (9, .int (Int32.ofInt ((2 ^ s : Nat) : Int))), (1, .ref 0), (0, .retAddr 1), (2, .int (Int32.ofInt ((1 : Nat) : Int))), (3, .int (Int32.ofInt ((ni : Nat) : Int))), (4, .int (Int32.ofInt ((c : Nat) : Int))), (5, .ref 100), (6, .int (Int32.ofInt ((s : Nat) : Int))), (7, .ref 124), (8, .ref 125)] [] (hp sh I1 J)) : LXf TT cl6 X mi_W_law (40 + 11) (1000 + 200 * 11) D P PX (kc + 2) (ks + 12) 1285 [(25, .int (Int32.ofInt (fnd bb ni))), (24, .int (Int32.ofInt ((bCnt bb : Nat) : Int))), (23, .ref 136), (22, .ref 135), (21, .ref 134), (20, .ref 133), (19, .int (Int32.ofInt ((fst r2 s ni : Nat) : Int))), (18, .ref 132), (17, .ref 131), (16, .int (Int32.ofInt ((2 ^ (s - ni) : Nat) : Int))), (15, .ref 130), (14, .int (Int32.ofInt ((bn ib : Nat) : Int))), (12, .ref 129), (11, .ref 128), (10, .int (Int32.ofInt ((b : Nat) : Int))), (9, .int (Int32.ofInt ((2 ^ s : Nat) : Int))), (1, .ref 0), (0, .retAddr 1), (2, .int (Int32.ofInt ((1 : Nat) : Int))), (3, .int (Int32.ofInt ((ni : Nat) : Int))), (4, .int (Int32.ofInt ((c : Nat) : Int))), (5, .ref 100), (6, .int (Int32.ofInt ((s : Nat) : Int))), (7, .ref 124), (8, .ref 125)] [] (hp sh I J) := by
  have hL := hst.1
  obtain ⟨hrk, hrw, hSH, hC, hk3, h124, h125, h126, hd5, ho5, hcs, hsw⟩ := id hL
  obtain ⟨ki, kc9, kg, hni1, hnis, hsN, hN23, hs7⟩ := id hrk
  obtain ⟨⟨f, hs0, hf⟩, hr, hR⟩ := id hrw
  have hM := hSH.1
  have hp7 := pow2_7 hs7
  have hp0 := Nat.two_pow_pos s
  obtain ⟨⟨fv, hv1, hv2⟩, hv3, hv4⟩ := hst.2.1
  have hth := hst.2.2.1
  have hkb := hth.2.2.2.2.2.1
  have hp9 := pow2_7 (s := s - ni) (by omega)
  have hni8 : 2 ^ ni ≤ 8 := Nat.pow_le_pow_right (n := 2) (by decide) hcs.2.1
  have hBI : BI (KP J) (NX J w s ni dt) (UL J w s ni ot no) (2 ^ ni) (fst r2 s ni) (2 ^ (s - ni)) bb := by rw [hbb]; exact BI_srch hC.1 _
  have hcB : bCnt bb ≤ 2 ^ (s - ni) := by rw [hBI.2.2.1]; exact cb_le _
  have hr9 := hst.2.2.2.2.2
  refine lf_room (kc1 := kc + 1 + 1) (ks1 := ks + 6 + 6) (by omega) (by omega) ?_
  cases ex : bX bb with
  | none =>
    have ef := fnd_n (ni := ni) ex
    rw [ef]
    refine lf_iload d_W_law_1285 rfl ?_
    refine gi_if_ge d_W_law_1287 (tgt := 1294) (by decide) (by omega) (fun hb1287 => False.elim (by omega)) (fun hb1287 => ?_)
    refine lf_iconst d_W_law_1290 (v := Int32.ofInt (-1)) rfl ?_
    refine lf_goto d_W_law_1291 (tgt := 1301) (by decide) ?_
    refine lf_istore d_W_law_1301 (by decide +kernel) (L2 := [(26, _), (25, _), (24, _), (23, _), (22, _), (21, _), (20, _), (19, _), (18, _), (17, _), (16, _), (15, _), (14, _), (12, _), (11, _), (10, _), (9, _), (1, _), (0, _), (2, _), (3, _), (4, _), (5, _), (6, _), (7, _), (8, _)]) rfl ?_
    refine lf_iload_n d_W_law_1303 rfl rfl ?_
    refine lf_aload_n d_W_law_1304 rfl rfl rfl ?_
    refine gw_callI s_W_law_1305 (wI_reached hx hM (m_reached hx hSH hC (fun ch hc => by omega) (Or.inl h2412) (by omega) (by omega) (fun z => by omega)) (lev := 10) (by decide)) (S := [_]) rfl rfl gcR_1 (by decide) (by decide +kernel) (Nat.le_of_ble_eq_true rfl) (fun r1305 I1305 J1305 w1305 => ?_)
    obtain ⟨hr, q1, q2, q3, hj9⟩ := w1305
    rw [hr, hj9, ← hbb]
    clear hr hj9
    have hst1 : STq sh I1305 J N ni c s no w kd ow r2 r3 dt ot bar := ST_K (fun a _ => rfl) ⟨fun a q ha _ _ _ h24 => q1 a q (Or.inl ha) h24, rfl, rfl, rfl, rfl⟩ (fun a h8 h9 => funext fun q => q1 a q (by omega) (by omega)) (q1 15 9 (by omega) (by omega)) rfl rfl rfl hst
    have hSH1 := hst1.1.2.2.1
    have hC1 := hst1.1.2.2.2.1
    have e159 : I1305 15 9 = I 15 9 := q1 15 9 (by omega) (by omega)
    have hsd1 : I1305 24 13 = I1305 15 9 := q3.trans e159.symm
    have hcm := q2.2
    rw [← hbb] at hcm
    have hda1 : I1305 24 15 = -1 := hcm.2.2.2.2.1 ex
    refine lf_iload d_W_law_1308 rfl ?_
    refine gi_icmp_ne d_W_law_1310 (tgt := 1349) (by decide) (by omega) (fun hb1310 => False.elim (by omega)) (fun hb1310 => ?_)
    refine lf_aload_n d_W_law_1313 rfl rfl rfl ?_
    refine gw_callI s_W_law_1314 (wI_difference hx hM (EVp_i (m_difference hx hSH1 hC1 hsd1 (by omega))) (lev := 10) (by decide)) (S := [_]) rfl rfl gcR_1 (by decide) (by decide +kernel) (Nat.le_of_ble_eq_true rfl) (fun r1314 I1314 J1314 w1314 => ?_)
    obtain ⟨hr, hi9, hj9⟩ := w1314
    rw [hr, hi9, hj9, hda1]
    clear hr hi9 hj9
    refine lf_iload d_W_law_1317 rfl ?_
    refine gi_icmp_ne d_W_law_1319 (tgt := 1349) (by decide) (by omega) (fun hb1319 => False.elim (by omega)) (fun hb1319 => ?_)
    refine lf_aload_n d_W_law_1322 rfl rfl rfl ?_
    refine lf_iload d_W_law_1323 rfl ?_
    refine lf_iconst d_W_law_1325 (v := Int32.ofInt ((1 : Nat) : Int)) rfl ?_
    refine gi_iadd d_W_law_1326 ?_
    refine gw_callX s_W_law_1327 (w_trace_4 hx hM (EVt_x (m_trace_t hx hSH1 hC1 hsd1 (by omega) (by omega) hda1 (by omega) (by omega))) (lev := 10) (by decide)) (S := [_]) rfl rfl gcR_1 (by decide) (by decide +kernel) (Nat.le_of_ble_eq_true rfl) (fun I1327 J1327 w1327 => ?_)
    obtain ⟨hi9, hj9⟩ := w1327
    rw [hi9, hj9]
    clear hi9 hj9
    refine gi_pushi s_W_law_1330 ?_
    refine gi_icmp_ne d_W_law_1332 (tgt := 1349) (by decide) (by omega) (fun hb1332 => False.elim (by omega)) (fun hb1332 => ?_)
    refine lf_aload_n d_W_law_1335 rfl rfl rfl ?_
    refine lf_iconst d_W_law_1336 (v := Int32.ofInt (-1)) rfl ?_
    refine gw_callX s_W_law_1337 (w_trace_4 hx hM (EVt_x (m_trace_t hx hSH1 hC1 hsd1 (by omega) (by omega) hda1 (by omega) (by omega))) (lev := 10) (by decide)) (S := [_]) rfl rfl gcR_1 (by decide) (by decide +kernel) (Nat.le_of_ble_eq_true rfl) (fun I1337 J1337 w1337 => ?_)
    obtain ⟨hi9, hj9⟩ := w1337
    rw [hi9, hj9]
    clear hi9 hj9
    refine gi_pushi s_W_law_1340 ?_
    refine gi_icmp_ne d_W_law_1342 (tgt := 1349) (by decide) (by omega) (fun hb1342 => False.elim (by omega)) (fun hb1342 => ?_)
    refine lf_iconst d_W_law_1345 (v := Int32.ofInt ((1 : Nat) : Int)) rfl ?_
    refine lf_goto d_W_law_1346 (tgt := 1350) (by decide) ?_
    refine gi_iandN (a := 1) (b := 1) d_W_law_1350 ?_
    refine gi_top rfl ?_
    refine lf_istore_n d_W_law_1351 rfl (by decide +kernel) (L2 := [(2, _), (26, _), (25, _), (24, _), (23, _), (22, _), (21, _), (20, _), (19, _), (18, _), (17, _), (16, _), (15, _), (14, _), (12, _), (11, _), (10, _), (9, _), (1, _), (0, _), (3, _), (4, _), (5, _), (6, _), (7, _), (8, _)]) rfl ?_
    refine lf_iload d_W_law_1352 rfl ?_
    refine gi_if_ge d_W_law_1354 (tgt := 1361) (by decide) (by omega) (fun hb1354 => False.elim (by omega)) (fun hb1354 => ?_)
    refine lf_iconst d_W_law_1357 (v := Int32.ofInt ((0 : Nat) : Int)) rfl ?_
    refine lf_goto d_W_law_1358 (tgt := 1365) (by decide) ?_
    refine lf_istore d_W_law_1365 (by decide +kernel) (L2 := [(27, _), (2, _), (26, _), (25, _), (24, _), (23, _), (22, _), (21, _), (20, _), (19, _), (18, _), (17, _), (16, _), (15, _), (14, _), (12, _), (11, _), (10, _), (9, _), (1, _), (0, _), (3, _), (4, _), (5, _), (6, _), (7, _), (8, _)]) rfl ?_
    refine lf_iload d_W_law_1367 rfl ?_
    refine gi_if_ge d_W_law_1369 (tgt := 1376) (by decide) (by omega) (fun hb1369 => False.elim (by omega)) (fun hb1369 => ?_)
    refine lf_iconst d_W_law_1372 (v := Int32.ofInt ((0 : Nat) : Int)) rfl ?_
    refine lf_goto d_W_law_1373 (tgt := 1382) (by decide) ?_
    refine lf_istore d_W_law_1382 (by decide +kernel) (L2 := [(28, _), (27, _), (2, _), (26, _), (25, _), (24, _), (23, _), (22, _), (21, _), (20, _), (19, _), (18, _), (17, _), (16, _), (15, _), (14, _), (12, _), (11, _), (10, _), (9, _), (1, _), (0, _), (3, _), (4, _), (5, _), (6, _), (7, _), (8, _)]) rfl ?_
    refine lf_iload d_W_law_1384 rfl ?_
    refine lf_istore d_W_law_1386 (by decide +kernel) (L2 := [(29, _), (28, _), (27, _), (2, _), (26, _), (25, _), (24, _), (23, _), (22, _), (21, _), (20, _), (19, _), (18, _), (17, _), (16, _), (15, _), (14, _), (12, _), (11, _), (10, _), (9, _), (1, _), (0, _), (3, _), (4, _), (5, _), (6, _), (7, _), (8, _)]) rfl ?_
    refine lf_iload d_W_law_1388 rfl ?_
    refine gi_if_lt d_W_law_1390 (tgt := 1432) (by decide) (by omega) (fun hb1390 => ?_) (fun hb1390 => False.elim (by omega))
    refine lf_sub [4, 11, 12, 13, 14, 15, 17, 20, 21, 22, 3, 23, 24, 25, 26, 27, 28] rfl ?_
    exact k1432 (-1) I1305 (by omega) hst1 q2 hsd1 hda1 (fun a ha => funext fun q => q1 a q (by omega) (by omega)) (by rw [ex])
  | some q =>
    obtain ⟨x, ch⟩ := q
    have ef := fnd_s (ni := ni) ex
    have hXb := hBI.2.2.2.2.2.2 x ch ex
    have hxl := hBI.2.1 x hXb.1
    have hdx := (hBI.2.2.2.2.2.1 x hXb.1).1
    have hcl := chc_lt hnis hxl hXb.2.1
    have ed : chc ni x ch / 2 ^ ni = x := by rw [chc_a hXb.2.1]; exact cd_div hXb.2.1
    have em : chc ni x ch % (1 * 2 ^ ni) = ch := by rw [Nat.one_mul, chc_a hXb.2.1]; exact cd_mod hXb.2.1
    have hsx := (hlb.2.1 x hxl hXb.1).1
    rw [ef]
    refine lf_iload d_W_law_1285 rfl ?_
    refine gi_if_ge d_W_law_1287 (tgt := 1294) (by decide) (by omega) (fun hb1287 => ?_) (fun hb1287 => False.elim (by omega))
    refine lf_aload d_W_law_1294 rfl rfl ?_
    refine lf_iload d_W_law_1296 rfl ?_
    refine lf_iload_n d_W_law_1298 rfl rfl ?_
    refine gi_ishrN (a := (chc ni x ch)) (s := ni) d_W_law_1299 (by omega) (by omega) ?_
    refine gi_top (congrArg Int.ofNat ed) ?_
    refine gi_ialoadN d_W_law_1300 h136 (by omega) ?_
    refine gi_top hsx ?_
    refine lf_istore d_W_law_1301 (by decide +kernel) (L2 := [(26, _), (25, _), (24, _), (23, _), (22, _), (21, _), (20, _), (19, _), (18, _), (17, _), (16, _), (15, _), (14, _), (12, _), (11, _), (10, _), (9, _), (1, _), (0, _), (2, _), (3, _), (4, _), (5, _), (6, _), (7, _), (8, _)]) rfl ?_
    refine lf_iload_n d_W_law_1303 rfl rfl ?_
    refine lf_aload_n d_W_law_1304 rfl rfl rfl ?_
    refine gw_callI s_W_law_1305 (wI_reached hx hM (m_reached hx hSH hC (fun ch hc => by omega) (Or.inl h2412) (by omega) (by omega) (fun z => by omega)) (lev := 10) (by decide)) (S := [_]) rfl rfl gcR_1 (by decide) (by decide +kernel) (Nat.le_of_ble_eq_true rfl) (fun r1305 I1305 J1305 w1305 => ?_)
    obtain ⟨hr, q1, q2, q3, hj9⟩ := w1305
    rw [hr, hj9, ← hbb]
    clear hr hj9
    have hst1 : STq sh I1305 J N ni c s no w kd ow r2 r3 dt ot bar := ST_K (fun a _ => rfl) ⟨fun a q ha _ _ _ h24 => q1 a q (Or.inl ha) h24, rfl, rfl, rfl, rfl⟩ (fun a h8 h9 => funext fun q => q1 a q (by omega) (by omega)) (q1 15 9 (by omega) (by omega)) rfl rfl rfl hst
    have hSH1 := hst1.1.2.2.1
    have hC1 := hst1.1.2.2.2.1
    have e159 : I1305 15 9 = I 15 9 := q1 15 9 (by omega) (by omega)
    have hsd1 : I1305 24 13 = I1305 15 9 := q3.trans e159.symm
    have hcm := q2.2
    rw [← hbb] at hcm
    have hda1 : I1305 24 15 = ((bD bb x : Nat) : Int) := (hcm.2.2.2.2.2 x ch ex).1
    refine lf_iload d_W_law_1308 rfl ?_
    refine gi_icmp_ne d_W_law_1310 (tgt := 1349) (by decide) (by omega) (fun hb1310 => False.elim (by omega)) (fun hb1310 => ?_)
    refine lf_aload_n d_W_law_1313 rfl rfl rfl ?_
    refine gw_callI s_W_law_1314 (wI_difference hx hM (EVp_i (m_difference hx hSH1 hC1 hsd1 (by omega))) (lev := 10) (by decide)) (S := [_]) rfl rfl gcR_1 (by decide) (by decide +kernel) (Nat.le_of_ble_eq_true rfl) (fun r1314 I1314 J1314 w1314 => ?_)
    obtain ⟨hr, hi9, hj9⟩ := w1314
    rw [hr, hi9, hj9, hda1]
    clear hr hi9 hj9
    refine lf_iload d_W_law_1317 rfl ?_
    refine gi_icmp_ne d_W_law_1319 (tgt := 1349) (by decide) (by omega) (fun hb1319 => False.elim (by omega)) (fun hb1319 => ?_)
    refine lf_aload_n d_W_law_1322 rfl rfl rfl ?_
    refine lf_iload d_W_law_1323 rfl ?_
    refine lf_iconst d_W_law_1325 (v := Int32.ofInt ((1 : Nat) : Int)) rfl ?_
    refine gi_iaddN (a := (bD bb x)) (b := 1) d_W_law_1326 ?_
    refine gw_callX s_W_law_1327 (w_trace_4 hx hM (EVt_x (m_trace_t hx hSH1 hC1 hsd1 (by omega) (by omega) hda1 (by omega) (by omega))) (lev := 10) (by decide)) (S := [_]) rfl rfl gcR_1 (by decide) (by decide +kernel) (Nat.le_of_ble_eq_true rfl) (fun I1327 J1327 w1327 => ?_)
    obtain ⟨hi9, hj9⟩ := w1327
    rw [hi9, hj9]
    clear hi9 hj9
    refine gi_pushi s_W_law_1330 ?_
    refine gi_icmp_ne d_W_law_1332 (tgt := 1349) (by decide) (by omega) (fun hb1332 => False.elim (by omega)) (fun hb1332 => ?_)
    refine lf_aload_n d_W_law_1335 rfl rfl rfl ?_
    refine lf_iconst d_W_law_1336 (v := Int32.ofInt (-1)) rfl ?_
    refine gw_callX s_W_law_1337 (w_trace_4 hx hM (EVt_x (m_trace_t hx hSH1 hC1 hsd1 (by omega) (by omega) hda1 (by omega) (by omega))) (lev := 10) (by decide)) (S := [_]) rfl rfl gcR_1 (by decide) (by decide +kernel) (Nat.le_of_ble_eq_true rfl) (fun I1337 J1337 w1337 => ?_)
    obtain ⟨hi9, hj9⟩ := w1337
    rw [hi9, hj9]
    clear hi9 hj9
    refine gi_pushi s_W_law_1340 ?_
    refine gi_icmp_ne d_W_law_1342 (tgt := 1349) (by decide) (by omega) (fun hb1342 => False.elim (by omega)) (fun hb1342 => ?_)
    refine lf_iconst d_W_law_1345 (v := Int32.ofInt ((1 : Nat) : Int)) rfl ?_
    refine lf_goto d_W_law_1346 (tgt := 1350) (by decide) ?_
    refine gi_iandN (a := 1) (b := 1) d_W_law_1350 ?_
    refine gi_top rfl ?_
    refine lf_istore_n d_W_law_1351 rfl (by decide +kernel) (L2 := [(2, _), (26, _), (25, _), (24, _), (23, _), (22, _), (21, _), (20, _), (19, _), (18, _), (17, _), (16, _), (15, _), (14, _), (12, _), (11, _), (10, _), (9, _), (1, _), (0, _), (3, _), (4, _), (5, _), (6, _), (7, _), (8, _)]) rfl ?_
    refine lf_iload d_W_law_1352 rfl ?_
    refine gi_if_ge d_W_law_1354 (tgt := 1361) (by decide) (by omega) (fun hb1354 => ?_) (fun hb1354 => False.elim (by omega))
    refine lf_iload d_W_law_1361 rfl ?_
    refine lf_iload_n d_W_law_1363 rfl rfl ?_
    refine gi_ishrN (a := (chc ni x ch)) (s := ni) d_W_law_1364 (by omega) (by omega) ?_
    refine gi_top (congrArg Int.ofNat ed) ?_
    refine lf_istore d_W_law_1365 (by decide +kernel) (L2 := [(27, _), (2, _), (26, _), (25, _), (24, _), (23, _), (22, _), (21, _), (20, _), (19, _), (18, _), (17, _), (16, _), (15, _), (14, _), (12, _), (11, _), (10, _), (9, _), (1, _), (0, _), (3, _), (4, _), (5, _), (6, _), (7, _), (8, _)]) rfl ?_
    refine lf_iload d_W_law_1367 rfl ?_
    refine gi_if_ge d_W_law_1369 (tgt := 1376) (by decide) (by omega) (fun hb1369 => ?_) (fun hb1369 => False.elim (by omega))
    refine lf_iload d_W_law_1376 rfl ?_
    refine lf_iconst d_W_law_1378 (v := Int32.ofInt ((1 : Nat) : Int)) rfl ?_
    refine lf_iload_n d_W_law_1379 rfl rfl ?_
    refine gi_ishlN (a := 1) (s := ni) d_W_law_1380 (by omega) ?_
    refine gi_iremN (a := (chc ni x ch)) (b := (1 * 2 ^ ni)) d_W_law_1381 (by omega) ?_
    refine gi_top (congrArg Int.ofNat em) ?_
    refine lf_istore d_W_law_1382 (by decide +kernel) (L2 := [(28, _), (27, _), (2, _), (26, _), (25, _), (24, _), (23, _), (22, _), (21, _), (20, _), (19, _), (18, _), (17, _), (16, _), (15, _), (14, _), (12, _), (11, _), (10, _), (9, _), (1, _), (0, _), (3, _), (4, _), (5, _), (6, _), (7, _), (8, _)]) rfl ?_
    refine lf_iload d_W_law_1384 rfl ?_
    refine lf_istore d_W_law_1386 (by decide +kernel) (L2 := [(29, _), (28, _), (27, _), (2, _), (26, _), (25, _), (24, _), (23, _), (22, _), (21, _), (20, _), (19, _), (18, _), (17, _), (16, _), (15, _), (14, _), (12, _), (11, _), (10, _), (9, _), (1, _), (0, _), (3, _), (4, _), (5, _), (6, _), (7, _), (8, _)]) rfl ?_
    refine lf_sub [0, 1, 2, 8, 9, 4, 11, 12, 13, 14, 15, 17, 20, 21, 22, 3, 23, 24, 25, 26, 27, 28] rfl ?_
    have hlb1 : LBq I1305 bb (2 ^ (s - ni)) (fst r2 s ni) := by
      have e133 : I1305 133 = I 133 := funext fun q => q1 133 q (by omega) (by omega)
      have e134 : I1305 134 = I 134 := funext fun q => q1 134 q (by omega) (by omega)
      have e135 : I1305 135 = I 135 := funext fun q => q1 135 q (by omega) (by omega)
      have e136 : I1305 136 = I 136 := funext fun q => q1 136 q (by omega) (by omega)
      unfold LBq at *
      rw [e133, e134, e135, e136]
      exact hlb
    exact law_k_t (len := ((bD bb x : Nat) : Int)) hx hst1 h134 h135 hBI hlb1 ex (hcm.2.2.2.2.2 x ch ex).2 hda1 hsd1 (k1432 _ I1305 (by omega) hst1 q2 hsd1 hda1 (fun a ha => funext fun q => q1 a q (by omega) (by omega)) (by rw [ex])) (bD bb x) 0 _ (by omega) (by omega)
end LA7
