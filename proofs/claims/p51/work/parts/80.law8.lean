section LA8
variable {X : XT} {L9 : Nat} {xs : Nat → Int32} {sh : sM} {I : mI} {J : mJ}

variable {D : mF} {P : Option Value → mF → Prop} {PX : String → mF → Prop} {kc ks : Nat}

/-- what stands once the search is told -/
def FINq (sh : sM) (I : mI) (J : mJ) (N ni c s no w : Nat) (kd : Nat → Int) (ow r2 r3 dt : Nat → Nat) (ot : Nat → Nat → Nat) (bar len : Int) : Prop :=
  STq sh I J N ni c s no w kd ow r2 r3 dt ot bar ∧ SR I J w s ni no r2 dt ot ∧ (I 24 13 = I 15 9 ∧ I 24 15 = len ∧ -1 ≤ len ∧ len < 1000) ∧ (sh 130 = some (.inl (.boolean, 2 ^ s, 0, fun _ => none)) ∧ sh 131 = some (.inl (.int, 2 ^ s, 0, fun _ => none)) ∧ sh 132 = some (.inl (.boolean, 2 ^ s, 0, fun _ => none))) ∧
  (∀ j, j < 2 ^ s → I 130 j = ((bn (kpt N s kd r2 r3 bar j) : Nat) : Int)) ∧ (∀ j, j < 2 ^ s → I 131 j = ((nxt J w s ni dt j : Nat) : Int) ∧ I 132 j = ((bn (unl2 J w s ot no j) : Nat) : Int))
theorem JEQ {J1 : mJ} (h15 : J1 15 = J 15) (h26 : J1 26 = J 26) (w s ni no : Nat) (dt : Nat → Nat) (ot : Nat → Nat → Nat) : KP J1 = KP J ∧ unl2 J1 w s ot no = unl2 J w s ot no ∧ nxt J1 w s ni dt = nxt J w s ni dt ∧ hbit J1 w s = hbit J w s := by
  refine ⟨?_, ?_, ?_, ?_⟩
  · funext ch
    show lb (J1 15 11) ch = lb (J 15 11) ch
    rw [h15]
  · funext q
    unfold unl2 out hbit
    rw [h26]
  · funext q
    unfold nxt hbit
    rw [h26]
  · funext a q
    unfold hbit
    rw [h26]
theorem FIN_K {sh1 : sM} {I1 : mI} {J1 : mJ} {N ni c s no w : Nat} {kd : Nat → Int} {ow r2 r3 dt : Nat → Nat} {ot : Nat → Nat → Nat} {bar len : Int} (hs : ∀ a, (a < 137 ∨ 200 ≤ a) → sh1 a = sh a ∧ J1 a = J a) (hI : ∀ a, (a < 137 ∨ 200 ≤ a) → ¬ a = 42 → ¬ a = 43 → I1 a = I a) (h : FINq sh I J N ni c s no w kd ow r2 r3 dt ot bar len) : FINq sh1 I1 J1 N ni c s no w kd ow r2 r3 dt ot bar len := by
  obtain ⟨h1, h2, h3, ⟨h4, h5, h6⟩, h7, h8⟩ := h
  obtain ⟨-, j2, j3, -⟩ := JEQ (hs 15 (by decide)).2 (hs 26 (by decide)).2 w s ni no dt ot
  refine ⟨ST_K (fun a ha => (hs a (by omega)).1) ⟨fun a q ha _ _ _ _ => congrFun (hI a (by omega) (by omega) (by omega)) q, (hs 26 (by decide)).2, (hs 27 (by decide)).2, (hs 28 (by decide)).2, congrFun (hs 15 (by decide)).2 3⟩ (fun a h8 h9 => hI a (by omega) (by omega) (by omega)) (congrFun (hI 15 (by decide) (by decide) (by decide)) 9) (hs 29 (by decide)).2 (hs 30 (by decide)).2 (congrFun (hs 15 (by decide)).2 11) h1,
    SR_K (fun a q ha => congrFun (hI a (by omega) (by omega) (by omega)) q) (congrFun (hs 15 (by decide)).2 11) (hs 26 (by decide)).2 h2, ?_, ⟨(hs 130 (by decide)).1.trans h4, (hs 131 (by decide)).1.trans h5, (hs 132 (by decide)).1.trans h6⟩, fun j hj => ?_, fun j hj => ?_⟩
  · rw [hI 24 (by decide) (by decide) (by decide), hI 15 (by decide) (by decide) (by decide)]
    exact h3
  · rw [hI 130 (by decide) (by decide) (by decide)]
    exact h7 j hj
  · rw [hI 131 (by decide) (by decide) (by decide), hI 132 (by decide) (by decide) (by decide), j2, j3]
    exact h8 j hj
theorem bn_an1 (i a : Bool) : bn (i && !a) &&& 1 = bn (i && !(a || false)) := by cases i <;> cases a <;> rfl
theorem bn_an0 (i a : Bool) : bn (i && !a) &&& 0 = bn (i && !(a || true)) := by cases i <;> cases a <;> rfl
theorem law_l_i (hx : HX X L9 xs) {N ni c s no w : Nat} {kd : Nat → Int} {ow r2 r3 dt : Nat → Nat} {ot : Nat → Nat → Nat} {bar len : Int} (hfin : FINq sh I J N ni c s no w kd ow r2 r3 dt ot bar len) {m : Nat → Bool} {qc qt n : Nat} {i0 : Bool} (hqc : sh qc = some (.inl (.boolean, 2 ^ (s - ni), 0, fun _ => none))) (hqt : sh qt = some (.inl (.boolean, 2 ^ (s - ni), 0, fun _ => none))) (hq9 : 137 ≤ qc ∧ qc < qt) (hm : ∀ y, y < 2 ^ (s - ni) → I qc y = ((bn (m y) : Nat) : Int)) (k1588 : ∀ I1 : mI, (∀ a, ¬ a = qt → I1 a = I a) ∧ (∀ y, y < 2 ^ (s - ni) → I1 qt y = ((bn (anyB (AP (KP J) ni (unl2 J w s ot no) (fun c => nxt J w s ni dt c) m y) (2 ^ s)) : Nat) : Int)) → LXf TT cl6 X mi_W_law (40 + 11) (1000 + 200 * 11) D P PX kc ks 1588 [(32, .ref qt), (31, .int (Int32.ofInt ((bn (i0 && !anyB (CP (KP J) ni (unl2 J w s ot no) m) (2 ^ s)) : Nat) : Int))), (30, .int (Int32.ofInt ((n : Nat) : Int))), (26, .int (Int32.ofInt (len))), (19, .int (Int32.ofInt ((fst r2 s ni : Nat) : Int))), (18, .ref 132), (17, .ref 131), (16, .int (Int32.ofInt ((2 ^ (s - ni) : Nat) : Int))), (15, .ref 130), (12, .ref 129), (9, .int (Int32.ofInt ((2 ^ s : Nat) : Int))), (1, .ref 0), (0, .retAddr 1), (2, .int (Int32.ofInt ((1 : Nat) : Int))), (3, .int (Int32.ofInt ((ni : Nat) : Int))), (4, .int (Int32.ofInt ((c : Nat) : Int))), (5, .ref 100), (6, .int (Int32.ofInt ((s : Nat) : Int))), (7, .ref 124), (8, .ref 125)] [] (hp sh I1 J)) : ∀ (d ch : Nat) (I1 : mI), ch + d = 2 ^ s → (∀ a, ¬ a = qt → I1 a = I a) ∧ (∀ y, y < 2 ^ (s - ni) → I1 qt y = ((bn (anyB (AP (KP J) ni (unl2 J w s ot no) (fun c => nxt J w s ni dt c) m y) ch) : Nat) : Int)) → LXf TT cl6 X mi_W_law (40 + 11) (1000 + 200 * 11) D P PX kc ks 1497 [(33, .int (Int32.ofInt ((ch : Nat) : Int))), (32, .ref qt), (31, .int (Int32.ofInt ((bn (i0 && !anyB (CP (KP J) ni (unl2 J w s ot no) m) ch) : Nat) : Int))), (30, .int (Int32.ofInt ((n : Nat) : Int))), (29, .ref qc), (26, .int (Int32.ofInt (len))), (19, .int (Int32.ofInt ((fst r2 s ni : Nat) : Int))), (18, .ref 132), (17, .ref 131), (16, .int (Int32.ofInt ((2 ^ (s - ni) : Nat) : Int))), (15, .ref 130), (12, .ref 129), (9, .int (Int32.ofInt ((2 ^ s : Nat) : Int))), (1, .ref 0), (0, .retAddr 1), (2, .int (Int32.ofInt ((1 : Nat) : Int))), (3, .int (Int32.ofInt ((ni : Nat) : Int))), (4, .int (Int32.ofInt ((c : Nat) : Int))), (5, .ref 100), (6, .int (Int32.ofInt ((s : Nat) : Int))), (7, .ref 124), (8, .ref 125)] [] (hp sh I1 J) := by
  have hst := hfin.1
  have hL := hst.1
  obtain ⟨hrk, hrw, hSH, hC, hk3, h124, h125, h126, hd5, ho5, hcs, hsw⟩ := id hL
  obtain ⟨ki, kc9, kg, hni1, hnis, hsN, hN23, hs7⟩ := id hrk
  obtain ⟨⟨f, hs0, hf⟩, hr, hR⟩ := id hrw
  have hM := hSH.1
  have hp7 := pow2_7 hs7
  have hp0 := Nat.two_pow_pos s
  obtain ⟨⟨fv, hv1, hv2⟩, hv3, hv4⟩ := hst.2.1
  have hth := hst.2.2.1
  have hkb := hth.2.2.2.2.2.1
  obtain ⟨hsd, hda, hda2⟩ := hfin.2.2.1
  obtain ⟨h130, h131, h132⟩ := hfin.2.2.2.1
  have hkv := hfin.2.2.2.2.1
  have hnv := hfin.2.2.2.2.2
  have hni8 : 2 ^ ni ≤ 8 := Nat.pow_le_pow_right (n := 2) (by decide) hcs.2.1
  have hp9 := pow2_7 (s := s - ni) (by omega)
  have hp90 := Nat.two_pow_pos (s - ni)
  have hps := pow_sp hnis
  intro d
  induction d with
  | zero =>
    intro ch I1 hd hb
    have hch : ch = 2 ^ s := by omega
    refine lf_iload d_W_law_1497 rfl ?_
    refine lf_iload d_W_law_1499 rfl ?_
    refine gi_icmp_ge d_W_law_1501 (tgt := 1588) (by decide) (by omega) (fun hb1501 => ?_) (fun hb1501 => False.elim (by omega))
    refine lf_sub [1, 2, 3, 5, 6, 7, 8, 9, 10, 11, 12, 13, 14, 15, 16, 17, 18, 19, 20, 21] rfl ?_
    subst hch
    exact k1588 I1 hb
  | succ d ih =>
    intro ch I1 hd hb
    have hch : ch < 2 ^ s := by omega
    obtain ⟨b1, b2⟩ := id hb
    have hcd : ch / 2 ^ ni < 2 ^ (s - ni) := by
      rw [Nat.div_lt_iff_lt_mul (Nat.two_pow_pos ni), hps]
      exact hch
    have hkp : kpt N s kd r2 r3 bar ch = (KP J) (ch % 2 ^ ni) := by
      rw [hst.2.2.2.2.1 ch]
      exact (hst.2.2.2.1 _ (Nat.mod_lt _ (Nat.two_pow_pos ni))).symm
    have vk : I1 130 ch = ((bn (kpt N s kd r2 r3 bar ch) : Nat) : Int) := (congrFun (b1 130 (by omega)) ch).trans (hkv ch hch)
    have vy : I1 131 ch = ((nxt J w s ni dt ch : Nat) : Int) := (congrFun (b1 131 (by omega)) ch).trans (hnv ch hch).1
    have vu : I1 132 ch = ((bn (unl2 J w s ot no ch) : Nat) : Int) := (congrFun (b1 132 (by omega)) ch).trans (hnv ch hch).2
    have hyl : nxt J w s ni dt ch < 2 ^ (s - ni) := nxt_lt
    have vm : I1 qc (ch / 2 ^ ni) = ((bn (m (ch / 2 ^ ni)) : Nat) : Int) := (congrFun (b1 qc (by omega)) _).trans (hm _ hcd)
    have vt : I1 qt (nxt J w s ni dt ch) = ((bn (anyB (AP (KP J) ni (unl2 J w s ot no) (fun c => nxt J w s ni dt c) m (nxt J w s ni dt ch)) ch) : Nat) : Int) := b2 _ hyl
    obtain ⟨g, hg⟩ : ∃ g : Bool, g = (m (ch / 2 ^ ni) && kpt N s kd r2 r3 bar ch && !unl2 J w s ot no ch) := ⟨_, rfl⟩
    obtain ⟨h, hh⟩ : ∃ h : Bool, h = (m (ch / 2 ^ ni) && kpt N s kd r2 r3 bar ch && unl2 J w s ot no ch) := ⟨_, rfl⟩
    have eA : ∀ y, anyB (AP (KP J) ni (unl2 J w s ot no) (fun c => nxt J w s ni dt c) m y) (ch + 1) = (anyB (AP (KP J) ni (unl2 J w s ot no) (fun c => nxt J w s ni dt c) m y) ch || (g && decide (nxt J w s ni dt ch = y))) := fun y => by
      rw [hg, hkp]; rfl
    have eC : anyB (CP (KP J) ni (unl2 J w s ot no) m) (ch + 1) = (anyB (CP (KP J) ni (unl2 J w s ot no) m) ch || h) := by
      rw [hh, hkp]; rfl
    have fin9 : ∀ z : Nat, z = bn (anyB (AP (KP J) ni (unl2 J w s ot no) (fun c => nxt J w s ni dt c) m (nxt J w s ni dt ch)) ch || g) → LXf TT cl6 X mi_W_law (40 + 11) (1000 + 200 * 11) D P PX kc ks 1497 [(33, .int (Int32.ofInt (((ch + 1) : Nat) : Int))), (32, .ref qt), (31, .int (Int32.ofInt ((bn (i0 && !anyB (CP (KP J) ni (unl2 J w s ot no) m) (ch + 1)) : Nat) : Int))), (30, .int (Int32.ofInt ((n : Nat) : Int))), (29, .ref qc), (26, .int (Int32.ofInt (len))), (19, .int (Int32.ofInt ((fst r2 s ni : Nat) : Int))), (18, .ref 132), (17, .ref 131), (16, .int (Int32.ofInt ((2 ^ (s - ni) : Nat) : Int))), (15, .ref 130), (12, .ref 129), (9, .int (Int32.ofInt ((2 ^ s : Nat) : Int))), (1, .ref 0), (0, .retAddr 1), (2, .int (Int32.ofInt ((1 : Nat) : Int))), (3, .int (Int32.ofInt ((ni : Nat) : Int))), (4, .int (Int32.ofInt ((c : Nat) : Int))), (5, .ref 100), (6, .int (Int32.ofInt ((s : Nat) : Int))), (7, .ref 124), (8, .ref 125)] [] (hp sh (ipt I1 qt (nxt J w s ni dt ch) ((z : Nat) : Int)) J) := by
      intro z hz
      refine ih (ch + 1) _ (by omega) ⟨fun a ha => (ipt_o ha).trans (b1 a ha), fun y hy => ?_⟩
      rw [ipt_s, eA y]
      by_cases e : y = nxt J w s ni dt ch
      · rw [if_pos e, e, hz, decide_eq_true rfl, Bool.and_true]
      · rw [if_neg e, decide_eq_false (fun z => e z.symm), Bool.and_false, Bool.or_false]
        exact b2 y hy
    cases em : m (ch / 2 ^ ni) with
    | false =>
      have em0 : bn (m (ch / 2 ^ ni)) = 0 := by rw [em]; rfl
      have gv : g = false := by rw [hg, em]; rfl
      have hv9 : h = false := by rw [hh, em]; rfl
      have isv : ((bn (i0 && !anyB (CP (KP J) ni (unl2 J w s ot no) m) ch) &&& 1 : Nat) : Int) = ((bn (i0 && !anyB (CP (KP J) ni (unl2 J w s ot no) m) (ch + 1)) : Nat) : Int) := by
        rw [eC, hv9]
        exact congrArg Int.ofNat (bn_an1 i0 _)
      have hle9 := bn_le (anyB (AP (KP J) ni (unl2 J w s ot no) (fun c => nxt J w s ni dt c) m (nxt J w s ni dt ch)) ch || g)
      refine lf_iload d_W_law_1497 rfl ?_
      refine lf_iload d_W_law_1499 rfl ?_
      refine gi_icmp_ge d_W_law_1501 (tgt := 1588) (by decide) (by omega) (fun hb1501 => False.elim (by omega)) (fun hb1501 => ?_)
      refine lf_iload d_W_law_1504 rfl ?_
      refine lf_aload d_W_law_1506 rfl rfl ?_
      refine lf_iload d_W_law_1508 rfl ?_
      refine lf_iload_n d_W_law_1510 rfl rfl ?_
      refine gi_ishrN (a := ch) (s := ni) d_W_law_1511 (by omega) (by omega) ?_
      refine gi_zaloadN d_W_law_1512 hqc (by omega) ?_
      refine gi_top vm ?_
      refine gi_if_eq d_W_law_1513 (tgt := 1532) (by decide) (by omega) (fun hb1513 => ?_) (fun hb1513 => False.elim (by omega))
      refine lf_iconst d_W_law_1532 (v := Int32.ofInt ((1 : Nat) : Int)) rfl ?_
      refine lf_goto d_W_law_1533 (tgt := 1537) (by decide) ?_
      refine gi_iandN (a := (bn (i0 && !anyB (CP (KP J) ni (unl2 J w s ot no) m) ch))) (b := 1) d_W_law_1537 ?_
      refine gi_top isv ?_
      refine lf_istore d_W_law_1538 (by decide +kernel) (L2 := [(31, _), (33, _), (32, _), (30, _), (29, _), (26, _), (19, _), (18, _), (17, _), (16, _), (15, _), (12, _), (9, _), (1, _), (0, _), (2, _), (3, _), (4, _), (5, _), (6, _), (7, _), (8, _)]) rfl ?_
      refine lf_aload d_W_law_1540 rfl rfl ?_
      refine lf_aload d_W_law_1542 rfl rfl ?_
      refine lf_iload d_W_law_1544 rfl ?_
      refine gi_ialoadN d_W_law_1546 h131 (by omega) ?_
      refine gi_top vy ?_
      refine lf_dup2 d_W_law_1547 rfl rfl ?_
      refine gi_zaloadN d_W_law_1548 hqt (by omega) ?_
      refine gi_top vt ?_
      refine lf_aload d_W_law_1549 rfl rfl ?_
      refine lf_iload d_W_law_1551 rfl ?_
      refine lf_iload_n d_W_law_1553 rfl rfl ?_
      refine gi_ishrN (a := ch) (s := ni) d_W_law_1554 (by omega) (by omega) ?_
      refine gi_zaloadN d_W_law_1555 hqc (by omega) ?_
      refine gi_top vm ?_
      refine gi_if_eq d_W_law_1556 (tgt := 1579) (by decide) (by omega) (fun hb1556 => ?_) (fun hb1556 => False.elim (by omega))
      refine lf_iconst d_W_law_1579 (v := Int32.ofInt ((0 : Nat) : Int)) rfl ?_
      refine gi_iorN (a := (bn (anyB (AP (KP J) ni (unl2 J w s ot no) (fun c => nxt J w s ni dt c) m (nxt J w s ni dt ch)) ch))) (b := 0) d_W_law_1580 ?_
      refine gi_top (show ((bn (anyB (AP (KP J) ni (unl2 J w s ot no) (fun c => nxt J w s ni dt c) m (nxt J w s ni dt ch)) ch) ||| 0 : Nat) : Int) = ((bn (anyB (AP (KP J) ni (unl2 J w s ot no) (fun c => nxt J w s ni dt c) m (nxt J w s ni dt ch)) ch || g) : Nat) : Int) from congrArg Int.ofNat (bn_or0 _ _ gv)) ?_
      refine gi_zastoreN d_W_law_1581 hqt (by omega) (by omega) ?_
      refine gi_iincN d_W_law_1582 rfl (by decide +kernel) (L2 := [(33, _), (31, _), (32, _), (30, _), (29, _), (26, _), (19, _), (18, _), (17, _), (16, _), (15, _), (12, _), (9, _), (1, _), (0, _), (2, _), (3, _), (4, _), (5, _), (6, _), (7, _), (8, _)]) rfl ?_
      refine lf_goto d_W_law_1585 (tgt := 1497) (by decide) ?_
      refine lf_sub [0, 2, 1, 3, 4, 5, 6, 7, 8, 9, 10, 11, 12, 13, 14, 15, 16, 17, 18, 19, 20, 21] rfl ?_
      exact fin9 _ rfl
    | true =>
      have em0 : bn (m (ch / 2 ^ ni)) = 1 := by rw [em]; rfl
      cases ek : kpt N s kd r2 r3 bar ch with
      | false =>
        have ek0 : bn (kpt N s kd r2 r3 bar ch) = 0 := by rw [ek]; rfl
        have gv : g = false := by rw [hg, em, ek]; rfl
        have hv9 : h = false := by rw [hh, em, ek]; rfl
        have isv : ((bn (i0 && !anyB (CP (KP J) ni (unl2 J w s ot no) m) ch) &&& 1 : Nat) : Int) = ((bn (i0 && !anyB (CP (KP J) ni (unl2 J w s ot no) m) (ch + 1)) : Nat) : Int) := by
          rw [eC, hv9]
          exact congrArg Int.ofNat (bn_an1 i0 _)
        have hle9 := bn_le (anyB (AP (KP J) ni (unl2 J w s ot no) (fun c => nxt J w s ni dt c) m (nxt J w s ni dt ch)) ch || g)
        refine lf_iload d_W_law_1497 rfl ?_
        refine lf_iload d_W_law_1499 rfl ?_
        refine gi_icmp_ge d_W_law_1501 (tgt := 1588) (by decide) (by omega) (fun hb1501 => False.elim (by omega)) (fun hb1501 => ?_)
        refine lf_iload d_W_law_1504 rfl ?_
        refine lf_aload d_W_law_1506 rfl rfl ?_
        refine lf_iload d_W_law_1508 rfl ?_
        refine lf_iload_n d_W_law_1510 rfl rfl ?_
        refine gi_ishrN (a := ch) (s := ni) d_W_law_1511 (by omega) (by omega) ?_
        refine gi_zaloadN d_W_law_1512 hqc (by omega) ?_
        refine gi_top vm ?_
        refine gi_if_eq d_W_law_1513 (tgt := 1532) (by decide) (by omega) (fun hb1513 => False.elim (by omega)) (fun hb1513 => ?_)
        refine lf_aload d_W_law_1516 rfl rfl ?_
        refine lf_iload d_W_law_1518 rfl ?_
        refine gi_zaloadN d_W_law_1520 h130 (by omega) ?_
        refine gi_top vk ?_
        refine gi_if_eq d_W_law_1521 (tgt := 1532) (by decide) (by omega) (fun hb1521 => ?_) (fun hb1521 => False.elim (by omega))
        refine lf_iconst d_W_law_1532 (v := Int32.ofInt ((1 : Nat) : Int)) rfl ?_
        refine lf_goto d_W_law_1533 (tgt := 1537) (by decide) ?_
        refine gi_iandN (a := (bn (i0 && !anyB (CP (KP J) ni (unl2 J w s ot no) m) ch))) (b := 1) d_W_law_1537 ?_
        refine gi_top isv ?_
        refine lf_istore d_W_law_1538 (by decide +kernel) (L2 := [(31, _), (33, _), (32, _), (30, _), (29, _), (26, _), (19, _), (18, _), (17, _), (16, _), (15, _), (12, _), (9, _), (1, _), (0, _), (2, _), (3, _), (4, _), (5, _), (6, _), (7, _), (8, _)]) rfl ?_
        refine lf_aload d_W_law_1540 rfl rfl ?_
        refine lf_aload d_W_law_1542 rfl rfl ?_
        refine lf_iload d_W_law_1544 rfl ?_
        refine gi_ialoadN d_W_law_1546 h131 (by omega) ?_
        refine gi_top vy ?_
        refine lf_dup2 d_W_law_1547 rfl rfl ?_
        refine gi_zaloadN d_W_law_1548 hqt (by omega) ?_
        refine gi_top vt ?_
        refine lf_aload d_W_law_1549 rfl rfl ?_
        refine lf_iload d_W_law_1551 rfl ?_
        refine lf_iload_n d_W_law_1553 rfl rfl ?_
        refine gi_ishrN (a := ch) (s := ni) d_W_law_1554 (by omega) (by omega) ?_
        refine gi_zaloadN d_W_law_1555 hqc (by omega) ?_
        refine gi_top vm ?_
        refine gi_if_eq d_W_law_1556 (tgt := 1579) (by decide) (by omega) (fun hb1556 => False.elim (by omega)) (fun hb1556 => ?_)
        refine lf_aload d_W_law_1559 rfl rfl ?_
        refine lf_iload d_W_law_1561 rfl ?_
        refine gi_zaloadN d_W_law_1563 h130 (by omega) ?_
        refine gi_top vk ?_
        refine gi_if_eq d_W_law_1564 (tgt := 1579) (by decide) (by omega) (fun hb1564 => ?_) (fun hb1564 => False.elim (by omega))
        refine lf_iconst d_W_law_1579 (v := Int32.ofInt ((0 : Nat) : Int)) rfl ?_
        refine gi_iorN (a := (bn (anyB (AP (KP J) ni (unl2 J w s ot no) (fun c => nxt J w s ni dt c) m (nxt J w s ni dt ch)) ch))) (b := 0) d_W_law_1580 ?_
        refine gi_top (show ((bn (anyB (AP (KP J) ni (unl2 J w s ot no) (fun c => nxt J w s ni dt c) m (nxt J w s ni dt ch)) ch) ||| 0 : Nat) : Int) = ((bn (anyB (AP (KP J) ni (unl2 J w s ot no) (fun c => nxt J w s ni dt c) m (nxt J w s ni dt ch)) ch || g) : Nat) : Int) from congrArg Int.ofNat (bn_or0 _ _ gv)) ?_
        refine gi_zastoreN d_W_law_1581 hqt (by omega) (by omega) ?_
        refine gi_iincN d_W_law_1582 rfl (by decide +kernel) (L2 := [(33, _), (31, _), (32, _), (30, _), (29, _), (26, _), (19, _), (18, _), (17, _), (16, _), (15, _), (12, _), (9, _), (1, _), (0, _), (2, _), (3, _), (4, _), (5, _), (6, _), (7, _), (8, _)]) rfl ?_
        refine lf_goto d_W_law_1585 (tgt := 1497) (by decide) ?_
        refine lf_sub [0, 2, 1, 3, 4, 5, 6, 7, 8, 9, 10, 11, 12, 13, 14, 15, 16, 17, 18, 19, 20, 21] rfl ?_
        exact fin9 _ rfl
      | true =>
        have ek0 : bn (kpt N s kd r2 r3 bar ch) = 1 := by rw [ek]; rfl
        cases eu : unl2 J w s ot no ch with
        | false =>
          have eu0 : bn (unl2 J w s ot no ch) = 0 := by rw [eu]; rfl
          have gv : g = true := by rw [hg, em, ek, eu]; rfl
          have hv9 : h = false := by rw [hh, em, ek, eu]; rfl
          have isv : ((bn (i0 && !anyB (CP (KP J) ni (unl2 J w s ot no) m) ch) &&& 1 : Nat) : Int) = ((bn (i0 && !anyB (CP (KP J) ni (unl2 J w s ot no) m) (ch + 1)) : Nat) : Int) := by
            rw [eC, hv9]
            exact congrArg Int.ofNat (bn_an1 i0 _)
          have hle9 := bn_le (anyB (AP (KP J) ni (unl2 J w s ot no) (fun c => nxt J w s ni dt c) m (nxt J w s ni dt ch)) ch || g)
          refine lf_iload d_W_law_1497 rfl ?_
          refine lf_iload d_W_law_1499 rfl ?_
          refine gi_icmp_ge d_W_law_1501 (tgt := 1588) (by decide) (by omega) (fun hb1501 => False.elim (by omega)) (fun hb1501 => ?_)
          refine lf_iload d_W_law_1504 rfl ?_
          refine lf_aload d_W_law_1506 rfl rfl ?_
          refine lf_iload d_W_law_1508 rfl ?_
          refine lf_iload_n d_W_law_1510 rfl rfl ?_
          refine gi_ishrN (a := ch) (s := ni) d_W_law_1511 (by omega) (by omega) ?_
          refine gi_zaloadN d_W_law_1512 hqc (by omega) ?_
          refine gi_top vm ?_
          refine gi_if_eq d_W_law_1513 (tgt := 1532) (by decide) (by omega) (fun hb1513 => False.elim (by omega)) (fun hb1513 => ?_)
          refine lf_aload d_W_law_1516 rfl rfl ?_
          refine lf_iload d_W_law_1518 rfl ?_
          refine gi_zaloadN d_W_law_1520 h130 (by omega) ?_
          refine gi_top vk ?_
          refine gi_if_eq d_W_law_1521 (tgt := 1532) (by decide) (by omega) (fun hb1521 => False.elim (by omega)) (fun hb1521 => ?_)
          refine lf_aload d_W_law_1524 rfl rfl ?_
          refine lf_iload d_W_law_1526 rfl ?_
          refine gi_zaloadN d_W_law_1528 h132 (by omega) ?_
          refine gi_top vu ?_
          refine gi_if_ne d_W_law_1529 (tgt := 1536) (by decide) (by omega) (fun hb1529 => False.elim (by omega)) (fun hb1529 => ?_)
          refine lf_iconst d_W_law_1532 (v := Int32.ofInt ((1 : Nat) : Int)) rfl ?_
          refine lf_goto d_W_law_1533 (tgt := 1537) (by decide) ?_
          refine gi_iandN (a := (bn (i0 && !anyB (CP (KP J) ni (unl2 J w s ot no) m) ch))) (b := 1) d_W_law_1537 ?_
          refine gi_top isv ?_
          refine lf_istore d_W_law_1538 (by decide +kernel) (L2 := [(31, _), (33, _), (32, _), (30, _), (29, _), (26, _), (19, _), (18, _), (17, _), (16, _), (15, _), (12, _), (9, _), (1, _), (0, _), (2, _), (3, _), (4, _), (5, _), (6, _), (7, _), (8, _)]) rfl ?_
          refine lf_aload d_W_law_1540 rfl rfl ?_
          refine lf_aload d_W_law_1542 rfl rfl ?_
          refine lf_iload d_W_law_1544 rfl ?_
          refine gi_ialoadN d_W_law_1546 h131 (by omega) ?_
          refine gi_top vy ?_
          refine lf_dup2 d_W_law_1547 rfl rfl ?_
          refine gi_zaloadN d_W_law_1548 hqt (by omega) ?_
          refine gi_top vt ?_
          refine lf_aload d_W_law_1549 rfl rfl ?_
          refine lf_iload d_W_law_1551 rfl ?_
          refine lf_iload_n d_W_law_1553 rfl rfl ?_
          refine gi_ishrN (a := ch) (s := ni) d_W_law_1554 (by omega) (by omega) ?_
          refine gi_zaloadN d_W_law_1555 hqc (by omega) ?_
          refine gi_top vm ?_
          refine gi_if_eq d_W_law_1556 (tgt := 1579) (by decide) (by omega) (fun hb1556 => False.elim (by omega)) (fun hb1556 => ?_)
          refine lf_aload d_W_law_1559 rfl rfl ?_
          refine lf_iload d_W_law_1561 rfl ?_
          refine gi_zaloadN d_W_law_1563 h130 (by omega) ?_
          refine gi_top vk ?_
          refine gi_if_eq d_W_law_1564 (tgt := 1579) (by decide) (by omega) (fun hb1564 => False.elim (by omega)) (fun hb1564 => ?_)
          refine lf_aload d_W_law_1567 rfl rfl ?_
          refine lf_iload d_W_law_1569 rfl ?_
          refine gi_zaloadN d_W_law_1571 h132 (by omega) ?_
          refine gi_top vu ?_
          refine gi_if_ne d_W_law_1572 (tgt := 1579) (by decide) (by omega) (fun hb1572 => False.elim (by omega)) (fun hb1572 => ?_)
          refine lf_iconst d_W_law_1575 (v := Int32.ofInt ((1 : Nat) : Int)) rfl ?_
          refine lf_goto d_W_law_1576 (tgt := 1580) (by decide) ?_
          refine gi_iorN (a := (bn (anyB (AP (KP J) ni (unl2 J w s ot no) (fun c => nxt J w s ni dt c) m (nxt J w s ni dt ch)) ch))) (b := 1) d_W_law_1580 ?_
          refine gi_top (show ((bn (anyB (AP (KP J) ni (unl2 J w s ot no) (fun c => nxt J w s ni dt c) m (nxt J w s ni dt ch)) ch) ||| 1 : Nat) : Int) = ((bn (anyB (AP (KP J) ni (unl2 J w s ot no) (fun c => nxt J w s ni dt c) m (nxt J w s ni dt ch)) ch || g) : Nat) : Int) from congrArg Int.ofNat (bn_or1 _ _ gv)) ?_
          refine gi_zastoreN d_W_law_1581 hqt (by omega) (by omega) ?_
          refine gi_iincN d_W_law_1582 rfl (by decide +kernel) (L2 := [(33, _), (31, _), (32, _), (30, _), (29, _), (26, _), (19, _), (18, _), (17, _), (16, _), (15, _), (12, _), (9, _), (1, _), (0, _), (2, _), (3, _), (4, _), (5, _), (6, _), (7, _), (8, _)]) rfl ?_
          refine lf_goto d_W_law_1585 (tgt := 1497) (by decide) ?_
          refine lf_sub [0, 2, 1, 3, 4, 5, 6, 7, 8, 9, 10, 11, 12, 13, 14, 15, 16, 17, 18, 19, 20, 21] rfl ?_
          exact fin9 _ rfl
        | true =>
          have eu0 : bn (unl2 J w s ot no ch) = 1 := by rw [eu]; rfl
          have gv : g = false := by rw [hg, em, ek, eu]; rfl
          have hv9 : h = true := by rw [hh, em, ek, eu]; rfl
          have isv : ((bn (i0 && !anyB (CP (KP J) ni (unl2 J w s ot no) m) ch) &&& 0 : Nat) : Int) = ((bn (i0 && !anyB (CP (KP J) ni (unl2 J w s ot no) m) (ch + 1)) : Nat) : Int) := by
            rw [eC, hv9]
            exact congrArg Int.ofNat (bn_an0 i0 _)
          have hle9 := bn_le (anyB (AP (KP J) ni (unl2 J w s ot no) (fun c => nxt J w s ni dt c) m (nxt J w s ni dt ch)) ch || g)
          refine lf_iload d_W_law_1497 rfl ?_
          refine lf_iload d_W_law_1499 rfl ?_
          refine gi_icmp_ge d_W_law_1501 (tgt := 1588) (by decide) (by omega) (fun hb1501 => False.elim (by omega)) (fun hb1501 => ?_)
          refine lf_iload d_W_law_1504 rfl ?_
          refine lf_aload d_W_law_1506 rfl rfl ?_
          refine lf_iload d_W_law_1508 rfl ?_
          refine lf_iload_n d_W_law_1510 rfl rfl ?_
          refine gi_ishrN (a := ch) (s := ni) d_W_law_1511 (by omega) (by omega) ?_
          refine gi_zaloadN d_W_law_1512 hqc (by omega) ?_
          refine gi_top vm ?_
          refine gi_if_eq d_W_law_1513 (tgt := 1532) (by decide) (by omega) (fun hb1513 => False.elim (by omega)) (fun hb1513 => ?_)
          refine lf_aload d_W_law_1516 rfl rfl ?_
          refine lf_iload d_W_law_1518 rfl ?_
          refine gi_zaloadN d_W_law_1520 h130 (by omega) ?_
          refine gi_top vk ?_
          refine gi_if_eq d_W_law_1521 (tgt := 1532) (by decide) (by omega) (fun hb1521 => False.elim (by omega)) (fun hb1521 => ?_)
          refine lf_aload d_W_law_1524 rfl rfl ?_
          refine lf_iload d_W_law_1526 rfl ?_
          refine gi_zaloadN d_W_law_1528 h132 (by omega) ?_
          refine gi_top vu ?_
          refine gi_if_ne d_W_law_1529 (tgt := 1536) (by decide) (by omega) (fun hb1529 => ?_) (fun hb1529 => False.elim (by omega))
          refine lf_iconst d_W_law_1536 (v := Int32.ofInt ((0 : Nat) : Int)) rfl ?_
          refine gi_iandN (a := (bn (i0 && !anyB (CP (KP J) ni (unl2 J w s ot no) m) ch))) (b := 0) d_W_law_1537 ?_
          refine gi_top isv ?_
          refine lf_istore d_W_law_1538 (by decide +kernel) (L2 := [(31, _), (33, _), (32, _), (30, _), (29, _), (26, _), (19, _), (18, _), (17, _), (16, _), (15, _), (12, _), (9, _), (1, _), (0, _), (2, _), (3, _), (4, _), (5, _), (6, _), (7, _), (8, _)]) rfl ?_
          refine lf_aload d_W_law_1540 rfl rfl ?_
          refine lf_aload d_W_law_1542 rfl rfl ?_
          refine lf_iload d_W_law_1544 rfl ?_
          refine gi_ialoadN d_W_law_1546 h131 (by omega) ?_
          refine gi_top vy ?_
          refine lf_dup2 d_W_law_1547 rfl rfl ?_
          refine gi_zaloadN d_W_law_1548 hqt (by omega) ?_
          refine gi_top vt ?_
          refine lf_aload d_W_law_1549 rfl rfl ?_
          refine lf_iload d_W_law_1551 rfl ?_
          refine lf_iload_n d_W_law_1553 rfl rfl ?_
          refine gi_ishrN (a := ch) (s := ni) d_W_law_1554 (by omega) (by omega) ?_
          refine gi_zaloadN d_W_law_1555 hqc (by omega) ?_
          refine gi_top vm ?_
          refine gi_if_eq d_W_law_1556 (tgt := 1579) (by decide) (by omega) (fun hb1556 => False.elim (by omega)) (fun hb1556 => ?_)
          refine lf_aload d_W_law_1559 rfl rfl ?_
          refine lf_iload d_W_law_1561 rfl ?_
          refine gi_zaloadN d_W_law_1563 h130 (by omega) ?_
          refine gi_top vk ?_
          refine gi_if_eq d_W_law_1564 (tgt := 1579) (by decide) (by omega) (fun hb1564 => False.elim (by omega)) (fun hb1564 => ?_)
          refine lf_aload d_W_law_1567 rfl rfl ?_
          refine lf_iload d_W_law_1569 rfl ?_
          refine gi_zaloadN d_W_law_1571 h132 (by omega) ?_
          refine gi_top vu ?_
          refine gi_if_ne d_W_law_1572 (tgt := 1579) (by decide) (by omega) (fun hb1572 => ?_) (fun hb1572 => False.elim (by omega))
          refine lf_iconst d_W_law_1579 (v := Int32.ofInt ((0 : Nat) : Int)) rfl ?_
          refine gi_iorN (a := (bn (anyB (AP (KP J) ni (unl2 J w s ot no) (fun c => nxt J w s ni dt c) m (nxt J w s ni dt ch)) ch))) (b := 0) d_W_law_1580 ?_
          refine gi_top (show ((bn (anyB (AP (KP J) ni (unl2 J w s ot no) (fun c => nxt J w s ni dt c) m (nxt J w s ni dt ch)) ch) ||| 0 : Nat) : Int) = ((bn (anyB (AP (KP J) ni (unl2 J w s ot no) (fun c => nxt J w s ni dt c) m (nxt J w s ni dt ch)) ch || g) : Nat) : Int) from congrArg Int.ofNat (bn_or0 _ _ gv)) ?_
          refine gi_zastoreN d_W_law_1581 hqt (by omega) (by omega) ?_
          refine gi_iincN d_W_law_1582 rfl (by decide +kernel) (L2 := [(33, _), (31, _), (32, _), (30, _), (29, _), (26, _), (19, _), (18, _), (17, _), (16, _), (15, _), (12, _), (9, _), (1, _), (0, _), (2, _), (3, _), (4, _), (5, _), (6, _), (7, _), (8, _)]) rfl ?_
          refine lf_goto d_W_law_1585 (tgt := 1497) (by decide) ?_
          refine lf_sub [0, 2, 1, 3, 4, 5, 6, 7, 8, 9, 10, 11, 12, 13, 14, 15, 16, 17, 18, 19, 20, 21] rfl ?_
          exact fin9 _ rfl
theorem bz01 (b : Bool) : bz b = ((0 : Nat) : Int) ∨ bz b = ((1 : Nat) : Int) := by
  cases b
  · exact Or.inl rfl
  · exact Or.inr rfl
theorem law_l_o (hx : HX X L9 xs) {N ni c s no w : Nat} {kd : Nat → Int} {ow r2 r3 dt : Nat → Nat} {ot : Nat → Nat → Nat} {bar len : Int} (hfin : FINq sh I J N ni c s no w kd ow r2 r3 dt ot bar len) (k1625 : ∀ (s1 : sM) (I1 : mI) (J1 : mJ), (∀ a, (a < 137 ∨ 200 ≤ a) → s1 a = sh a ∧ J1 a = J a) → (∀ a, (a < 137 ∨ 200 ≤ a) → ¬ a = 42 → ¬ a = 43 → I1 a = I a) → (∀ a, 141 ≤ a → a < 200 → s1 a = none) → LXf TT cl6 X mi_W_law (40 + 11) (1000 + 200 * 11) D P PX kc ks 1625 [(26, .int (Int32.ofInt (len))), (19, .int (Int32.ofInt ((fst r2 s ni : Nat) : Int))), (18, .ref 132), (17, .ref 131), (16, .int (Int32.ofInt ((2 ^ (s - ni) : Nat) : Int))), (15, .ref 130), (12, .ref 129), (9, .int (Int32.ofInt ((2 ^ s : Nat) : Int))), (1, .ref 0), (0, .retAddr 1), (2, .int (Int32.ofInt ((1 : Nat) : Int))), (3, .int (Int32.ofInt ((ni : Nat) : Int))), (4, .int (Int32.ofInt ((c : Nat) : Int))), (5, .ref 100), (6, .int (Int32.ofInt ((s : Nat) : Int))), (7, .ref 124), (8, .ref 125)] [] (hp s1 I1 J1)) : ∀ (d n : Nat) (s1 : sM) (I1 : mI) (J1 : mJ), n + d = 3 → (∀ a, (a < 137 ∨ 200 ≤ a) → s1 a = sh a ∧ J1 a = J a) ∧ (∀ a, (a < 137 ∨ 200 ≤ a) → ¬ a = 42 → ¬ a = 43 → I1 a = I a) ∧ s1 (137 + n) = some (.inl (.boolean, 2 ^ (s - ni), 0, fun _ => none)) ∧ (∀ a, 138 + n ≤ a → a < 200 → s1 a = none) ∧ (∀ y, y < 2 ^ (s - ni) → I1 (137 + n) y = ((bn ((alkN (KP J) ni s (unl2 J w s ot no) (fun c => nxt J w s ni dt c) n) y) : Nat) : Int)) → LXf TT cl6 X mi_W_law (40 + 11) (1000 + 200 * 11) D P PX (d + kc) (128 * d + ks) 1463 [(30, .int (Int32.ofInt ((n : Nat) : Int))), (29, .ref (137 + n)), (26, .int (Int32.ofInt (len))), (19, .int (Int32.ofInt ((fst r2 s ni : Nat) : Int))), (18, .ref 132), (17, .ref 131), (16, .int (Int32.ofInt ((2 ^ (s - ni) : Nat) : Int))), (15, .ref 130), (12, .ref 129), (9, .int (Int32.ofInt ((2 ^ s : Nat) : Int))), (1, .ref 0), (0, .retAddr 1), (2, .int (Int32.ofInt ((1 : Nat) : Int))), (3, .int (Int32.ofInt ((ni : Nat) : Int))), (4, .int (Int32.ofInt ((c : Nat) : Int))), (5, .ref 100), (6, .int (Int32.ofInt ((s : Nat) : Int))), (7, .ref 124), (8, .ref 125)] [] (hp s1 I1 J1) := by
  intro d
  induction d with
  | zero =>
    intro n s1 I1 J1 hd hb
    obtain ⟨b1, b2, b3, b4, b5⟩ := id hb
    obtain rfl : n = 3 := by omega
    refine lf_room (kc1 := kc) (ks1 := ks) (by omega) (by omega) ?_
    refine lf_iload d_W_law_1463 rfl ?_
    refine lf_iconst d_W_law_1465 (v := Int32.ofInt ((3 : Nat) : Int)) rfl ?_
    refine gi_icmp_ge d_W_law_1466 (tgt := 1625) (by decide) (by omega) (fun hb1466 => ?_) (fun hb1466 => False.elim (by omega))
    refine lf_sub [2, 3, 4, 5, 6, 7, 8, 9, 10, 11, 12, 13, 14, 15, 16, 17, 18] rfl ?_
    exact k1625 s1 I1 J1 b1 b2 b4
  | succ d ih =>
    intro n s1 I1 J1 hd hb
    obtain ⟨b1, b2, b3, b4, b5⟩ := id hb
    have hfin1 := FIN_K b1 b2 hfin
    obtain ⟨j1, j2, j3, -⟩ := JEQ (b1 15 (by decide)).2 (b1 26 (by decide)).2 w s ni no dt ot
    rw [← j1, ← j2, ← j3] at b5
    have hst := hfin1.1
    have hL := hst.1
    obtain ⟨hrk, hrw, hSH, hC, hk3, h124, h125, h126, hd5, ho5, hcs, hsw⟩ := id hL
    obtain ⟨ki, kc9, kg, hni1, hnis, hsN, hN23, hs7⟩ := id hrk
    obtain ⟨⟨f, hs0, hf⟩, hr, hR⟩ := id hrw
    have hM := hSH.1
    have hp7 := pow2_7 hs7
    have hp0 := Nat.two_pow_pos s
    obtain ⟨⟨fv, hv1, hv2⟩, hv3, hv4⟩ := hst.2.1
    have hth := hst.2.2.1
    have hkb := hth.2.2.2.2.2.1
    obtain ⟨hsd, hda, hda2⟩ := hfin1.2.2.1
    obtain ⟨h130, h131, h132⟩ := hfin1.2.2.2.1
    have hkv := hfin1.2.2.2.2.1
    have hnv := hfin1.2.2.2.2.2
    have hni8 : 2 ^ ni ≤ 8 := Nat.pow_le_pow_right (n := 2) (by decide) hcs.2.1
    have hp9 := pow2_7 (s := s - ni) (by omega)
    have hp90 := Nat.two_pow_pos (s - ni)
    have hps := pow_sp hnis
    obtain ⟨i0, hi0⟩ : ∃ q : Bool, q = !(decide (0 ≤ len) && decide (len < ((n : Nat) : Int))) := ⟨_, rfl⟩
    refine lf_room (kc1 := (d + kc) + 1) (ks1 := (128 * d + ks) + 128) (by omega) (by omega) ?_
    have j1486 : LXf TT cl6 X mi_W_law (40 + 11) (1000 + 200 * 11) D P PX ((d + kc) + 1) ((128 * d + ks) + 128) 1486 [(30, .int (Int32.ofInt ((n : Nat) : Int))), (29, .ref (137 + n)), (26, .int (Int32.ofInt (len))), (19, .int (Int32.ofInt ((fst r2 s ni : Nat) : Int))), (18, .ref 132), (17, .ref 131), (16, .int (Int32.ofInt ((2 ^ (s - ni) : Nat) : Int))), (15, .ref 130), (12, .ref 129), (9, .int (Int32.ofInt ((2 ^ s : Nat) : Int))), (1, .ref 0), (0, .retAddr 1), (2, .int (Int32.ofInt ((1 : Nat) : Int))), (3, .int (Int32.ofInt ((ni : Nat) : Int))), (4, .int (Int32.ofInt ((c : Nat) : Int))), (5, .ref 100), (6, .int (Int32.ofInt ((s : Nat) : Int))), (7, .ref 124), (8, .ref 125)] [.int (Int32.ofInt ((bn i0 : Nat) : Int))] (hp s1 I1 J1) := by
      refine lf_istore d_W_law_1486 (by decide +kernel) (L2 := [(31, _), (30, _), (29, _), (26, _), (19, _), (18, _), (17, _), (16, _), (15, _), (12, _), (9, _), (1, _), (0, _), (2, _), (3, _), (4, _), (5, _), (6, _), (7, _), (8, _)]) rfl ?_
      refine lf_iload d_W_law_1488 rfl ?_
      refine gi_newB_boolean d_W_law_1490 tA_boolean (m := (2 ^ (s - ni))) (B := 128) (q := (138 + n)) (by omega) (by decide) (b4 _ (by omega) (by omega)) ?_
      refine lf_astore d_W_law_1492 (by decide +kernel) rfl (L2 := [(32, _), (31, _), (30, _), (29, _), (26, _), (19, _), (18, _), (17, _), (16, _), (15, _), (12, _), (9, _), (1, _), (0, _), (2, _), (3, _), (4, _), (5, _), (6, _), (7, _), (8, _)]) rfl ?_
      refine lf_iconst d_W_law_1494 (v := Int32.ofInt ((0 : Nat) : Int)) rfl ?_
      refine lf_istore d_W_law_1495 (by decide +kernel) (L2 := [(33, _), (32, _), (31, _), (30, _), (29, _), (26, _), (19, _), (18, _), (17, _), (16, _), (15, _), (12, _), (9, _), (1, _), (0, _), (2, _), (3, _), (4, _), (5, _), (6, _), (7, _), (8, _)]) rfl ?_
      have hlo : ∀ a, (a < 137 ∨ 200 ≤ a) → (spt s1 (138 + n) (.inl (.boolean, 2 ^ (s - ni), 0, fun _ => none))) a = s1 a ∧ jzr J1 (138 + n) a = J1 a := fun a ha => ⟨spt_o (by omega), jzr_o (by omega)⟩
      have hfin2 : FINq (spt s1 (138 + n) (.inl (.boolean, 2 ^ (s - ni), 0, fun _ => none))) (izr I1 (138 + n)) (jzr J1 (138 + n)) N ni c s no w kd ow r2 r3 dt ot bar len := FIN_K hlo (fun a ha _ _ => izr_o (by omega)) hfin1
      obtain ⟨l1, l2, l3, -⟩ := JEQ (hlo 15 (by decide)).2 (hlo 26 (by decide)).2 w s ni no dt ot
      refine lf_eqL (L1 := [(33, .int (Int32.ofInt ((0 : Nat) : Int))), (32, .ref (138 + n)), (31, .int (Int32.ofInt ((bn (i0 && !anyB (CP (KP (jzr J1 (138 + n))) ni (unl2 (jzr J1 (138 + n)) w s ot no) (alkN (KP J1) ni s (unl2 J1 w s ot no) (fun c => nxt J1 w s ni dt c) n)) 0) : Nat) : Int))), (30, .int (Int32.ofInt ((n : Nat) : Int))), (29, .ref (137 + n)), (26, .int (Int32.ofInt (len))), (19, .int (Int32.ofInt ((fst r2 s ni : Nat) : Int))), (18, .ref 132), (17, .ref 131), (16, .int (Int32.ofInt ((2 ^ (s - ni) : Nat) : Int))), (15, .ref 130), (12, .ref 129), (9, .int (Int32.ofInt ((2 ^ s : Nat) : Int))), (1, .ref 0), (0, .retAddr 1), (2, .int (Int32.ofInt ((1 : Nat) : Int))), (3, .int (Int32.ofInt ((ni : Nat) : Int))), (4, .int (Int32.ofInt ((c : Nat) : Int))), (5, .ref 100), (6, .int (Int32.ofInt ((s : Nat) : Int))), (7, .ref 124), (8, .ref 125)]) (by rw [show bn i0 = bn (i0 && !anyB (CP (KP (jzr J1 (138 + n))) ni (unl2 (jzr J1 (138 + n)) w s ot no) (alkN (KP J1) ni s (unl2 J1 w s ot no) (fun c => nxt J1 w s ni dt c) n)) 0) from by cases i0 <;> rfl]) ?_
      refine law_l_i (m := (alkN (KP J1) ni s (unl2 J1 w s ot no) (fun c => nxt J1 w s ni dt c) n)) (qc := 137 + n) (qt := 138 + n) (i0 := i0) hx hfin2 ((spt_o (by omega)).trans b3) spt_s (by omega) (fun y hy => (congrFun (izr_o (by omega)) y).trans (b5 y hy)) (fun I2 hb2 => ?_) (2 ^ s) 0 _ (by omega) ⟨fun a _ => rfl, fun y _ => izr_s.trans rfl⟩
      rw [l1, l2, l3] at hb2
      rw [l1, l2]
      obtain ⟨c1, c2⟩ := hb2
      have hfin3 : FINq (spt s1 (138 + n) (.inl (.boolean, 2 ^ (s - ni), 0, fun _ => none))) I2 (jzr J1 (138 + n)) N ni c s no w kd ow r2 r3 dt ot bar len := FIN_K (fun a _ => ⟨rfl, rfl⟩) (fun a ha _ _ => c1 a (by omega)) hfin2
      cases eF : i0 && !anyB (CP (KP J1) ni (unl2 J1 w s ot no) (alkN (KP J1) ni s (unl2 J1 w s ot no) (fun c => nxt J1 w s ni dt c) n)) (2 ^ s) with
      | true =>
        have eF0 : bn true = 1 := rfl
        refine lf_iload_n d_W_law_1588 rfl rfl ?_
        refine lf_aload_n d_W_law_1589 rfl rfl rfl ?_
        refine lf_iload d_W_law_1590 rfl ?_
        refine gw_callI s_W_law_1592 (w_isInductive hx hfin3.1.1.2.2.1.1 (m_isInductive hx hfin3.1.1.2.2.1 hfin3.1.1.2.2.2.1 (fun ch hc => by omega) hfin3.2.1.1 (k := n) (by omega) hfin3.2.2.1.2.1 hfin3.2.2.1.2.2 hfin3.2.2.1.1 (by have := hfin3.1.2.2.2.2.2; omega)) (fun r I9 J9 h9 => by rw [h9.1]; exact bz01 _) (lev := 10) (by decide)) (S := [_]) rfl rfl gcR_1 (by decide) (by decide +kernel) (Nat.le_of_ble_eq_true rfl) (fun r1592 I1592 J1592 w1592 => ?_)
        obtain ⟨hr, g1, hj9⟩ := w1592
        rw [hr, hj9, l1, l2, l3, ← hi0, eF, bz_bn]
        clear hr hj9
        refine lf_iload d_W_law_1595 rfl ?_
        refine gi_if_eq d_W_law_1597 (tgt := 1604) (by decide) (by omega) (fun hb1597 => False.elim (by omega)) (fun hb1597 => ?_)
        refine lf_iconst d_W_law_1600 (v := Int32.ofInt ((1 : Nat) : Int)) rfl ?_
        refine lf_goto d_W_law_1601 (tgt := 1605) (by decide) ?_
        refine gi_icmp_ne d_W_law_1605 (tgt := 1612) (by decide) (by omega) (fun hb1605 => False.elim (by omega)) (fun hb1605 => ?_)
        refine lf_iconst d_W_law_1608 (v := Int32.ofInt ((1 : Nat) : Int)) rfl ?_
        refine lf_goto d_W_law_1609 (tgt := 1613) (by decide) ?_
        refine gi_iandN (a := 1) (b := 1) d_W_law_1613 ?_
        refine gi_top rfl ?_
        refine lf_istore_n d_W_law_1614 rfl (by decide +kernel) (L2 := [(2, _), (32, _), (31, _), (30, _), (26, _), (19, _), (18, _), (17, _), (16, _), (15, _), (12, _), (9, _), (1, _), (0, _), (3, _), (4, _), (5, _), (6, _), (7, _), (8, _)]) rfl ?_
        refine lf_aload d_W_law_1615 rfl rfl ?_
        refine lf_astore d_W_law_1617 (by decide +kernel) rfl (L2 := [(29, _), (2, _), (32, _), (31, _), (30, _), (26, _), (19, _), (18, _), (17, _), (16, _), (15, _), (12, _), (9, _), (1, _), (0, _), (3, _), (4, _), (5, _), (6, _), (7, _), (8, _)]) rfl ?_
        refine gi_iincN d_W_law_1619 rfl (by decide +kernel) (L2 := [(30, _), (29, _), (2, _), (32, _), (31, _), (26, _), (19, _), (18, _), (17, _), (16, _), (15, _), (12, _), (9, _), (1, _), (0, _), (3, _), (4, _), (5, _), (6, _), (7, _), (8, _)]) rfl ?_
        refine lf_goto d_W_law_1622 (tgt := 1463) (by decide) ?_
        refine lf_sub [0, 1, 5, 6, 7, 8, 9, 10, 11, 12, 13, 14, 2, 15, 16, 17, 18, 19, 20] rfl ?_
        have e138 : 137 + (n + 1) = 138 + n := by omega
        have gA : (spt s1 (138 + n) (.inl (.boolean, 2 ^ (s - ni), 0, fun _ => none))) (137 + (n + 1)) = some (.inl (.boolean, 2 ^ (s - ni), 0, fun _ => none)) := by rw [e138]; exact spt_s
        have gB : ∀ y, y < 2 ^ (s - ni) → I1592 (137 + (n + 1)) y = ((bn ((alkN (KP J) ni s (unl2 J w s ot no) (fun c => nxt J w s ni dt c) (n + 1)) y) : Nat) : Int) := fun y hy => by
          rw [e138, g1 (138 + n) (by omega) (by omega), c2 y hy, j1, j2, j3]
          rfl
        have g9 := ih (n + 1) _ I1592 _ (by omega) ⟨fun a ha => ⟨(hlo a ha).1.trans (b1 a ha).1, (hlo a ha).2.trans (b1 a ha).2⟩, fun a ha h42 h43 => (g1 a h42 h43).trans ((c1 a (by omega)).trans ((izr_o (by omega)).trans (b2 a ha h42 h43))), gA, fun a h1 h2 => (spt_o (by omega)).trans (b4 a (by omega) h2), gB⟩
        rw [e138] at g9
        exact g9
      | false =>
        have eF0 : bn false = 0 := rfl
        refine lf_iload_n d_W_law_1588 rfl rfl ?_
        refine lf_aload_n d_W_law_1589 rfl rfl rfl ?_
        refine lf_iload d_W_law_1590 rfl ?_
        refine gw_callI s_W_law_1592 (w_isInductive hx hfin3.1.1.2.2.1.1 (m_isInductive hx hfin3.1.1.2.2.1 hfin3.1.1.2.2.2.1 (fun ch hc => by omega) hfin3.2.1.1 (k := n) (by omega) hfin3.2.2.1.2.1 hfin3.2.2.1.2.2 hfin3.2.2.1.1 (by have := hfin3.1.2.2.2.2.2; omega)) (fun r I9 J9 h9 => by rw [h9.1]; exact bz01 _) (lev := 10) (by decide)) (S := [_]) rfl rfl gcR_1 (by decide) (by decide +kernel) (Nat.le_of_ble_eq_true rfl) (fun r1592 I1592 J1592 w1592 => ?_)
        obtain ⟨hr, g1, hj9⟩ := w1592
        rw [hr, hj9, l1, l2, l3, ← hi0, eF, bz_bn]
        clear hr hj9
        refine lf_iload d_W_law_1595 rfl ?_
        refine gi_if_eq d_W_law_1597 (tgt := 1604) (by decide) (by omega) (fun hb1597 => ?_) (fun hb1597 => False.elim (by omega))
        refine lf_iconst d_W_law_1604 (v := Int32.ofInt ((0 : Nat) : Int)) rfl ?_
        refine gi_icmp_ne d_W_law_1605 (tgt := 1612) (by decide) (by omega) (fun hb1605 => False.elim (by omega)) (fun hb1605 => ?_)
        refine lf_iconst d_W_law_1608 (v := Int32.ofInt ((1 : Nat) : Int)) rfl ?_
        refine lf_goto d_W_law_1609 (tgt := 1613) (by decide) ?_
        refine gi_iandN (a := 1) (b := 1) d_W_law_1613 ?_
        refine gi_top rfl ?_
        refine lf_istore_n d_W_law_1614 rfl (by decide +kernel) (L2 := [(2, _), (32, _), (31, _), (30, _), (26, _), (19, _), (18, _), (17, _), (16, _), (15, _), (12, _), (9, _), (1, _), (0, _), (3, _), (4, _), (5, _), (6, _), (7, _), (8, _)]) rfl ?_
        refine lf_aload d_W_law_1615 rfl rfl ?_
        refine lf_astore d_W_law_1617 (by decide +kernel) rfl (L2 := [(29, _), (2, _), (32, _), (31, _), (30, _), (26, _), (19, _), (18, _), (17, _), (16, _), (15, _), (12, _), (9, _), (1, _), (0, _), (3, _), (4, _), (5, _), (6, _), (7, _), (8, _)]) rfl ?_
        refine gi_iincN d_W_law_1619 rfl (by decide +kernel) (L2 := [(30, _), (29, _), (2, _), (32, _), (31, _), (26, _), (19, _), (18, _), (17, _), (16, _), (15, _), (12, _), (9, _), (1, _), (0, _), (3, _), (4, _), (5, _), (6, _), (7, _), (8, _)]) rfl ?_
        refine lf_goto d_W_law_1622 (tgt := 1463) (by decide) ?_
        refine lf_sub [0, 1, 5, 6, 7, 8, 9, 10, 11, 12, 13, 14, 2, 15, 16, 17, 18, 19, 20] rfl ?_
        have e138 : 137 + (n + 1) = 138 + n := by omega
        have gA : (spt s1 (138 + n) (.inl (.boolean, 2 ^ (s - ni), 0, fun _ => none))) (137 + (n + 1)) = some (.inl (.boolean, 2 ^ (s - ni), 0, fun _ => none)) := by rw [e138]; exact spt_s
        have gB : ∀ y, y < 2 ^ (s - ni) → I1592 (137 + (n + 1)) y = ((bn ((alkN (KP J) ni s (unl2 J w s ot no) (fun c => nxt J w s ni dt c) (n + 1)) y) : Nat) : Int) := fun y hy => by
          rw [e138, g1 (138 + n) (by omega) (by omega), c2 y hy, j1, j2, j3]
          rfl
        have g9 := ih (n + 1) _ I1592 _ (by omega) ⟨fun a ha => ⟨(hlo a ha).1.trans (b1 a ha).1, (hlo a ha).2.trans (b1 a ha).2⟩, fun a ha h42 h43 => (g1 a h42 h43).trans ((c1 a (by omega)).trans ((izr_o (by omega)).trans (b2 a ha h42 h43))), gA, fun a h1 h2 => (spt_o (by omega)).trans (b4 a (by omega) h2), gB⟩
        rw [e138] at g9
        exact g9
    by_cases h0 : len < 0
    · have ei : i0 = true := by rw [hi0, decide_eq_false (by omega)]; rfl
      rw [ei] at j1486
      refine lf_iload d_W_law_1463 rfl ?_
      refine lf_iconst d_W_law_1465 (v := Int32.ofInt ((3 : Nat) : Int)) rfl ?_
      refine gi_icmp_ge d_W_law_1466 (tgt := 1625) (by decide) (by omega) (fun hb1466 => False.elim (by omega)) (fun hb1466 => ?_)
      refine lf_iload d_W_law_1469 rfl ?_
      refine gi_if_lt d_W_law_1471 (tgt := 1481) (by decide) (by omega) (fun hb1471 => ?_) (fun hb1471 => False.elim (by omega))
      refine lf_iconst d_W_law_1481 (v := Int32.ofInt ((1 : Nat) : Int)) rfl ?_
      refine lf_goto d_W_law_1482 (tgt := 1486) (by decide) ?_
      exact j1486
    · by_cases h1 : len < ((n : Nat) : Int)
      · have ei : i0 = false := by rw [hi0, decide_eq_true (by omega), decide_eq_true h1]; rfl
        rw [ei] at j1486
        refine lf_iload d_W_law_1463 rfl ?_
        refine lf_iconst d_W_law_1465 (v := Int32.ofInt ((3 : Nat) : Int)) rfl ?_
        refine gi_icmp_ge d_W_law_1466 (tgt := 1625) (by decide) (by omega) (fun hb1466 => False.elim (by omega)) (fun hb1466 => ?_)
        refine lf_iload d_W_law_1469 rfl ?_
        refine gi_if_lt d_W_law_1471 (tgt := 1481) (by decide) (by omega) (fun hb1471 => False.elim (by omega)) (fun hb1471 => ?_)
        refine lf_iload d_W_law_1474 rfl ?_
        refine lf_iload d_W_law_1476 rfl ?_
        refine gi_icmp_lt d_W_law_1478 (tgt := 1485) (by decide) (by omega) (fun hb1478 => ?_) (fun hb1478 => False.elim (by omega))
        refine lf_iconst d_W_law_1485 (v := Int32.ofInt ((0 : Nat) : Int)) rfl ?_
        exact j1486
      · have ei : i0 = true := by rw [hi0, decide_eq_false h1, Bool.and_false]; rfl
        rw [ei] at j1486
        refine lf_iload d_W_law_1463 rfl ?_
        refine lf_iconst d_W_law_1465 (v := Int32.ofInt ((3 : Nat) : Int)) rfl ?_
        refine gi_icmp_ge d_W_law_1466 (tgt := 1625) (by decide) (by omega) (fun hb1466 => False.elim (by omega)) (fun hb1466 => ?_)
        refine lf_iload d_W_law_1469 rfl ?_
        refine gi_if_lt d_W_law_1471 (tgt := 1481) (by decide) (by omega) (fun hb1471 => False.elim (by omega)) (fun hb1471 => ?_)
        refine lf_iload d_W_law_1474 rfl ?_
        refine lf_iload d_W_law_1476 rfl ?_
        refine gi_icmp_lt d_W_law_1478 (tgt := 1485) (by decide) (by omega) (fun hb1478 => False.elim (by omega)) (fun hb1478 => ?_)
        refine lf_iconst d_W_law_1481 (v := Int32.ofInt ((1 : Nat) : Int)) rfl ?_
        refine lf_goto d_W_law_1482 (tgt := 1486) (by decide) ?_
        exact j1486
theorem law_l_1 (hx : HX X L9 xs) {ni c s : Nat} {r2 : Nat → Nat} {len : Int} (hs7 : s ≤ 7) (h137 : sh 137 = some (.inl (.boolean, 2 ^ (s - ni), 0, fun _ => none))) (k1460 : ∀ I1 : mI, (∀ a, ¬ a = 137 → I1 a = I a) ∧ (∀ j, j < 2 ^ (s - ni) → I1 137 j = ((1 : Nat) : Int)) → LXf TT cl6 X mi_W_law (40 + 11) (1000 + 200 * 11) D P PX kc ks 1460 [(29, .ref 137), (26, .int (Int32.ofInt (len))), (19, .int (Int32.ofInt ((fst r2 s ni : Nat) : Int))), (18, .ref 132), (17, .ref 131), (16, .int (Int32.ofInt ((2 ^ (s - ni) : Nat) : Int))), (15, .ref 130), (12, .ref 129), (9, .int (Int32.ofInt ((2 ^ s : Nat) : Int))), (1, .ref 0), (0, .retAddr 1), (2, .int (Int32.ofInt ((1 : Nat) : Int))), (3, .int (Int32.ofInt ((ni : Nat) : Int))), (4, .int (Int32.ofInt ((c : Nat) : Int))), (5, .ref 100), (6, .int (Int32.ofInt ((s : Nat) : Int))), (7, .ref 124), (8, .ref 125)] [] (hp sh I1 J)) : ∀ (d k : Nat) (I1 : mI), k + d = 2 ^ (s - ni) → (∀ a, ¬ a = 137 → I1 a = I a) ∧ (∀ j, j < k → I1 137 j = ((1 : Nat) : Int)) → LXf TT cl6 X mi_W_law (40 + 11) (1000 + 200 * 11) D P PX kc ks 1441 [(30, .int (Int32.ofInt ((k : Nat) : Int))), (29, .ref 137), (26, .int (Int32.ofInt (len))), (19, .int (Int32.ofInt ((fst r2 s ni : Nat) : Int))), (18, .ref 132), (17, .ref 131), (16, .int (Int32.ofInt ((2 ^ (s - ni) : Nat) : Int))), (15, .ref 130), (12, .ref 129), (9, .int (Int32.ofInt ((2 ^ s : Nat) : Int))), (1, .ref 0), (0, .retAddr 1), (2, .int (Int32.ofInt ((1 : Nat) : Int))), (3, .int (Int32.ofInt ((ni : Nat) : Int))), (4, .int (Int32.ofInt ((c : Nat) : Int))), (5, .ref 100), (6, .int (Int32.ofInt ((s : Nat) : Int))), (7, .ref 124), (8, .ref 125)] [] (hp sh I1 J) := by
  have hp7 := pow2_7 (s := s - ni) (by omega)
  intro d
  induction d with
  | zero =>
    intro k I1 hd hb
    have hk : k = 2 ^ (s - ni) := by omega
    refine lf_iload d_W_law_1441 rfl ?_
    refine lf_iload d_W_law_1443 rfl ?_
    refine gi_icmp_ge d_W_law_1445 (tgt := 1460) (by decide) (by omega) (fun hb1445 => ?_) (fun hb1445 => False.elim (by omega))
    refine lf_sub [1, 2, 3, 4, 5, 6, 7, 8, 9, 10, 11, 12, 13, 14, 15, 16, 17, 18] rfl ?_
    subst hk
    exact k1460 I1 hb
  | succ d ih =>
    intro k I1 hd hb
    refine lf_iload d_W_law_1441 rfl ?_
    refine lf_iload d_W_law_1443 rfl ?_
    refine gi_icmp_ge d_W_law_1445 (tgt := 1460) (by decide) (by omega) (fun hb1445 => False.elim (by omega)) (fun hb1445 => ?_)
    refine lf_aload d_W_law_1448 rfl rfl ?_
    refine lf_iload d_W_law_1450 rfl ?_
    refine lf_iconst d_W_law_1452 (v := Int32.ofInt ((1 : Nat) : Int)) rfl ?_
    refine gi_zastoreN d_W_law_1453 h137 (by omega) (by omega) ?_
    refine gi_iincN d_W_law_1454 rfl (by decide +kernel) (L2 := [(30, _), (29, _), (26, _), (19, _), (18, _), (17, _), (16, _), (15, _), (12, _), (9, _), (1, _), (0, _), (2, _), (3, _), (4, _), (5, _), (6, _), (7, _), (8, _)]) rfl ?_
    refine lf_goto d_W_law_1457 (tgt := 1441) (by decide) ?_
    refine ih (k + 1) _ (by omega) ⟨fun a ha => (ipt_o ha).trans (hb.1 a ha), fun j hj => ?_⟩
    rw [ipt_s]
    by_cases e : j = k
    · rw [if_pos e]
    · rw [if_neg e]
      exact hb.2 j (by omega)
theorem law_l (hx : HX X L9 xs) {N ni c s no w : Nat} {kd : Nat → Int} {ow r2 r3 dt : Nat → Nat} {ot : Nat → Nat → Nat} {bar len : Int} (hfin : FINq sh I J N ni c s no w kd ow r2 r3 dt ot bar len) (hfr : ∀ a, 137 ≤ a → a < 200 → sh a = none) (k1625 : ∀ (s1 : sM) (I1 : mI) (J1 : mJ), (∀ a, (a < 137 ∨ 200 ≤ a) → s1 a = sh a ∧ J1 a = J a) → (∀ a, (a < 137 ∨ 200 ≤ a) → ¬ a = 42 → ¬ a = 43 → I1 a = I a) → (∀ a, 141 ≤ a → a < 200 → s1 a = none) → LXf TT cl6 X mi_W_law (40 + 11) (1000 + 200 * 11) D P PX kc ks 1625 [(26, .int (Int32.ofInt (len))), (19, .int (Int32.ofInt ((fst r2 s ni : Nat) : Int))), (18, .ref 132), (17, .ref 131), (16, .int (Int32.ofInt ((2 ^ (s - ni) : Nat) : Int))), (15, .ref 130), (12, .ref 129), (9, .int (Int32.ofInt ((2 ^ s : Nat) : Int))), (1, .ref 0), (0, .retAddr 1), (2, .int (Int32.ofInt ((1 : Nat) : Int))), (3, .int (Int32.ofInt ((ni : Nat) : Int))), (4, .int (Int32.ofInt ((c : Nat) : Int))), (5, .ref 100), (6, .int (Int32.ofInt ((s : Nat) : Int))), (7, .ref 124), (8, .ref 125)] [] (hp s1 I1 J1)) : LXf TT cl6 X mi_W_law (40 + 11) (1000 + 200 * 11) D P PX (kc + 4) (ks + 512) 1432 [(26, .int (Int32.ofInt (len))), (19, .int (Int32.ofInt ((fst r2 s ni : Nat) : Int))), (18, .ref 132), (17, .ref 131), (16, .int (Int32.ofInt ((2 ^ (s - ni) : Nat) : Int))), (15, .ref 130), (12, .ref 129), (9, .int (Int32.ofInt ((2 ^ s : Nat) : Int))), (1, .ref 0), (0, .retAddr 1), (2, .int (Int32.ofInt ((1 : Nat) : Int))), (3, .int (Int32.ofInt ((ni : Nat) : Int))), (4, .int (Int32.ofInt ((c : Nat) : Int))), (5, .ref 100), (6, .int (Int32.ofInt ((s : Nat) : Int))), (7, .ref 124), (8, .ref 125)] [] (hp sh I J) := by
  have hst := hfin.1
  have hL := hst.1
  obtain ⟨hrk, hrw, hSH, hC, hk3, h124, h125, h126, hd5, ho5, hcs, hsw⟩ := id hL
  obtain ⟨ki, kc9, kg, hni1, hnis, hsN, hN23, hs7⟩ := id hrk
  obtain ⟨⟨f, hs0, hf⟩, hr, hR⟩ := id hrw
  have hM := hSH.1
  have hp7 := pow2_7 hs7
  have hp0 := Nat.two_pow_pos s
  obtain ⟨⟨fv, hv1, hv2⟩, hv3, hv4⟩ := hst.2.1
  have hth := hst.2.2.1
  have hkb := hth.2.2.2.2.2.1
  obtain ⟨hsd, hda, hda2⟩ := hfin.2.2.1
  obtain ⟨h130, h131, h132⟩ := hfin.2.2.2.1
  have hkv := hfin.2.2.2.2.1
  have hnv := hfin.2.2.2.2.2
  have hni8 : 2 ^ ni ≤ 8 := Nat.pow_le_pow_right (n := 2) (by decide) hcs.2.1
  have hp9 := pow2_7 (s := s - ni) (by omega)
  have hp90 := Nat.two_pow_pos (s - ni)
  have hps := pow_sp hnis
  refine lf_room (kc1 := (3 + kc) + 1) (ks1 := (128 * 3 + ks) + 128) (by omega) (by omega) ?_
  refine lf_iload d_W_law_1432 rfl ?_
  refine gi_newB_boolean d_W_law_1434 tA_boolean (m := (2 ^ (s - ni))) (B := 128) (q := 137) (by omega) (by decide) (hfr 137 (by decide) (by decide)) ?_
  refine lf_astore d_W_law_1436 (by decide +kernel) rfl (L2 := [(29, _), (26, _), (19, _), (18, _), (17, _), (16, _), (15, _), (12, _), (9, _), (1, _), (0, _), (2, _), (3, _), (4, _), (5, _), (6, _), (7, _), (8, _)]) rfl ?_
  refine lf_iconst d_W_law_1438 (v := Int32.ofInt ((0 : Nat) : Int)) rfl ?_
  refine lf_istore d_W_law_1439 (by decide +kernel) (L2 := [(30, _), (29, _), (26, _), (19, _), (18, _), (17, _), (16, _), (15, _), (12, _), (9, _), (1, _), (0, _), (2, _), (3, _), (4, _), (5, _), (6, _), (7, _), (8, _)]) rfl ?_
  refine law_l_1 hx hs7 spt_s (fun I1 hb => ?_) (2 ^ (s - ni)) 0 _ (by omega) ⟨fun a _ => rfl, fun j hj => absurd hj (Nat.not_lt_zero j)⟩
  refine lf_iconst d_W_law_1460 (v := Int32.ofInt ((0 : Nat) : Int)) rfl ?_
  refine lf_istore d_W_law_1461 (by decide +kernel) (L2 := [(30, _), (29, _), (26, _), (19, _), (18, _), (17, _), (16, _), (15, _), (12, _), (9, _), (1, _), (0, _), (2, _), (3, _), (4, _), (5, _), (6, _), (7, _), (8, _)]) rfl ?_
  exact law_l_o hx hfin k1625 3 0 _ I1 _ (by omega) ⟨fun a ha => ⟨spt_o (by omega), jzr_o (by omega)⟩, fun a ha _ _ => (hb.1 a (by omega)).trans (izr_o (by omega)), spt_s, fun a h1 h2 => (spt_o (by omega)).trans (hfr a (by omega) h2), fun y hy => hb.2 y hy⟩
end LA8
