section LA6
variable {X : XT} {L9 : Nat} {xs : Nat → Int32} {sh : sM} {I : mI} {J : mJ}

variable {D : mF} {P : Option Value → mF → Prop} {PX : String → mF → Prop} {kc ks : Nat}

/-- the law's rows are those of the search -/
def LBq (I : mI) (b : BST) (S f : Nat) : Prop := (∀ j, j < bCnt b → I 133 j = ((bQ b j : Nat) : Int)) ∧ (∀ y, y < S → bS b y = true → I 136 y = ((bD b y : Nat) : Int) ∧ (¬ y = f → I 134 y = ((bF b y : Nat) : Int) ∧ I 135 y = ((bB b y : Nat) : Int))) ∧ (∀ y, y < S → bS b y = false → I 136 y = -1)
def fnd (b : BST) (ni : Nat) : Int := match bX b with | none => -1 | some q => ((chc ni q.1 q.2 : Nat) : Int)
theorem fnd_n {b : BST} {ni : Nat} (h : bX b = none) : fnd b ni = -1 := by unfold fnd; rw [h]
theorem fnd_s {b : BST} {ni x ch : Nat} (h : bX b = some (x, ch)) : fnd b ni = ((chc ni x ch : Nat) : Int) := by unfold fnd; rw [h]
theorem LB_meet {b : BST} {S f y x n : Nat} (h : LBq I b S f) (hs : bS b y = false) : LBq (ipt (ipt (ipt (ipt I 136 y ((bD b x + 1 : Nat) : Int)) 134 y ((x : Nat) : Int)) 135 y ((n : Nat) : Int)) 133 (bCnt b) ((y : Nat) : Int)) (bMeet b y x n (bD b x + 1)) S f := by
  obtain ⟨h1, h2, h3⟩ := h
  refine ⟨fun j hj => ?_, fun z hz hb => ?_, fun z hz hb => ?_⟩
  · have hj1 : j < bCnt b + 1 := hj
    show _ = ((upN (bQ b) (bCnt b) y j : Nat) : Int)
    rw [ipt_s]
    by_cases e : j = bCnt b
    · rw [if_pos e, e, upN_s]
    · rw [if_neg e, upN_o e, ipt_o (by decide), ipt_o (by decide), ipt_o (by decide)]
      exact h1 j (by omega)
  · have hb1 : upN (bS b) y true z = true := hb
    show _ = ((upN (bD b) y (bD b x + 1) z : Nat) : Int) ∧ (¬ z = f → _ = ((upN (bF b) y x z : Nat) : Int) ∧ _ = ((upN (bB b) y n z : Nat) : Int))
    rw [ipt_o (show ¬ 136 = 133 by decide), ipt_o (show ¬ 136 = 135 by decide), ipt_o (show ¬ 136 = 134 by decide), ipt_s, ipt_o (show ¬ 134 = 133 by decide), ipt_o (show ¬ 134 = 135 by decide), ipt_s, ipt_o (show ¬ 134 = 136 by decide), ipt_o (show ¬ 135 = 133 by decide), ipt_s, ipt_o (show ¬ 135 = 134 by decide), ipt_o (show ¬ 135 = 136 by decide)]
    by_cases e : z = y
    · rw [if_pos e, if_pos e, if_pos e, e, upN_s, upN_s, upN_s]
      exact ⟨rfl, fun _ => ⟨rfl, rfl⟩⟩
    · rw [if_neg e, if_neg e, if_neg e, upN_o e, upN_o e, upN_o e]
      rw [upN_o e] at hb1
      exact h2 z hz hb1
  · have hb1 : upN (bS b) y true z = false := hb
    have e : ¬ z = y := fun e => by rw [e, upN_s] at hb1; cases hb1
    rw [upN_o e] at hb1
    rw [ipt_o (show ¬ 136 = 133 by decide), ipt_o (show ¬ 136 = 135 by decide), ipt_o (show ¬ 136 = 134 by decide), ipt_s, if_neg e]
    exact h3 z hz hb1
theorem law_j_i (hx : HX X L9 xs) {N ni c s no w : Nat} {kd : Nat → Int} {ow r2 r3 dt : Nat → Nat} {ot : Nat → Nat → Nat} {b : Nat} {ib : Bool} {bar : Int} (hst : STq sh I J N ni c s no w kd ow r2 r3 dt ot bar) (h131 : sh 131 = some (.inl (.int, 2 ^ s, 0, fun _ => none))) (h132 : sh 132 = some (.inl (.boolean, 2 ^ s, 0, fun _ => none))) (h133 : sh 133 = some (.inl (.int, 2 ^ (s - ni) + 1, 0, fun _ => none))) (h134 : sh 134 = some (.inl (.int, 2 ^ (s - ni), 0, fun _ => none))) (h135 : sh 135 = some (.inl (.int, 2 ^ (s - ni), 0, fun _ => none))) (h136 : sh 136 = some (.inl (.int, 2 ^ (s - ni), 0, fun _ => none))) (h130 : sh 130 = some (.inl (.boolean, 2 ^ s, 0, fun _ => none))) (hkv : ∀ j, j < 2 ^ s → I 130 j = ((bn (kpt N s kd r2 r3 bar j) : Nat) : Int)) (hnv : ∀ j, j < 2 ^ s → I 131 j = ((nxt J w s ni dt j : Nat) : Int) ∧ I 132 j = ((bn (unl2 J w s ot no j) : Nat) : Int)) {b0 : BST} {k : Nat} (hb0 : BI (KP J) (NX J w s ni dt) (UL J w s ni ot no) (2 ^ ni) (fst r2 s ni) (2 ^ (s - ni)) b0) (hk : k < bCnt b0) (k1279 : ∀ I1 : mI, (∀ a, ¬ a = 133 → ¬ a = 134 → ¬ a = 135 → ¬ a = 136 → I1 a = I a) → LBq I1 (bExp (KP J) (NX J w s ni dt) (UL J w s ni ot no) (bQ b0 k) (2 ^ ni) b0) (2 ^ (s - ni)) (fst r2 s ni) → LXf TT cl6 X mi_W_law (40 + 11) (1000 + 200 * 11) D P PX kc ks 1279 [(26, .int (Int32.ofInt ((k : Nat) : Int))), (25, .int (Int32.ofInt (fnd (bExp (KP J) (NX J w s ni dt) (UL J w s ni ot no) (bQ b0 k) (2 ^ ni) b0) ni))), (24, .int (Int32.ofInt ((bCnt (bExp (KP J) (NX J w s ni dt) (UL J w s ni ot no) (bQ b0 k) (2 ^ ni) b0) : Nat) : Int))), (23, .ref 136), (22, .ref 135), (21, .ref 134), (20, .ref 133), (19, .int (Int32.ofInt ((fst r2 s ni : Nat) : Int))), (18, .ref 132), (17, .ref 131), (16, .int (Int32.ofInt ((2 ^ (s - ni) : Nat) : Int))), (15, .ref 130), (14, .int (Int32.ofInt ((bn ib : Nat) : Int))), (12, .ref 129), (11, .ref 128), (10, .int (Int32.ofInt ((b : Nat) : Int))), (9, .int (Int32.ofInt ((2 ^ s : Nat) : Int))), (1, .ref 0), (0, .retAddr 1), (2, .int (Int32.ofInt ((1 : Nat) : Int))), (3, .int (Int32.ofInt ((ni : Nat) : Int))), (4, .int (Int32.ofInt ((c : Nat) : Int))), (5, .ref 100), (6, .int (Int32.ofInt ((s : Nat) : Int))), (7, .ref 124), (8, .ref 125)] [] (hp sh I1 J)) : ∀ (d n : Nat) (I1 : mI), n + d = 2 ^ ni → (∀ a, ¬ a = 133 → ¬ a = 134 → ¬ a = 135 → ¬ a = 136 → I1 a = I a) → LBq I1 (bExp (KP J) (NX J w s ni dt) (UL J w s ni ot no) (bQ b0 k) n b0) (2 ^ (s - ni)) (fst r2 s ni) → LXf TT cl6 X mi_W_law (40 + 11) (1000 + 200 * 11) D P PX kc ks 1150 [(27, .int (Int32.ofInt ((n : Nat) : Int))), (26, .int (Int32.ofInt ((k : Nat) : Int))), (25, .int (Int32.ofInt (fnd (bExp (KP J) (NX J w s ni dt) (UL J w s ni ot no) (bQ b0 k) n b0) ni))), (24, .int (Int32.ofInt ((bCnt (bExp (KP J) (NX J w s ni dt) (UL J w s ni ot no) (bQ b0 k) n b0) : Nat) : Int))), (23, .ref 136), (22, .ref 135), (21, .ref 134), (20, .ref 133), (19, .int (Int32.ofInt ((fst r2 s ni : Nat) : Int))), (18, .ref 132), (17, .ref 131), (16, .int (Int32.ofInt ((2 ^ (s - ni) : Nat) : Int))), (15, .ref 130), (14, .int (Int32.ofInt ((bn ib : Nat) : Int))), (12, .ref 129), (11, .ref 128), (10, .int (Int32.ofInt ((b : Nat) : Int))), (9, .int (Int32.ofInt ((2 ^ s : Nat) : Int))), (1, .ref 0), (0, .retAddr 1), (2, .int (Int32.ofInt ((1 : Nat) : Int))), (3, .int (Int32.ofInt ((ni : Nat) : Int))), (4, .int (Int32.ofInt ((c : Nat) : Int))), (5, .ref 100), (6, .int (Int32.ofInt ((s : Nat) : Int))), (7, .ref 124), (8, .ref 125)] [] (hp sh I1 J) := by
  have hL := hst.1
  obtain ⟨hrk, hrw, hSH, hC, hk3, h124, h125, h126, hd5, ho5, hcs, hsw⟩ := id hL
  obtain ⟨ki, kc9, kg, hni1, hnis, hsN, hN23, hs7⟩ := id hrk
  obtain ⟨⟨f, hs0, hf⟩, hr, hR⟩ := id hrw
  have hM := hSH.1
  have hp7 := pow2_7 hs7
  have hp0 := Nat.two_pow_pos s
  obtain ⟨⟨fv, hv1, hv2⟩, hv3, hv4⟩ := hst.2.1
  have hth := hst.2.2.1
  have hkb := hth.2.2.2.2.2.1
  have hni8 : 2 ^ ni ≤ 8 := Nat.pow_le_pow_right (n := 2) (by decide) hcs.2.1
  have hx9 := hb0.1 k hk
  have hp9 := pow2_7 (s := s - ni) (by omega)
  have hc0 : bCnt b0 ≤ 2 ^ (s - ni) := by rw [hb0.2.2.1]; exact cb_le _
  intro d
  induction d with
  | zero =>
    intro n I1 hd hfr hlb
    have hn : n = 2 ^ ni := by omega
    refine lf_iload d_W_law_1150 rfl ?_
    refine lf_iconst d_W_law_1152 (v := Int32.ofInt ((1 : Nat) : Int)) rfl ?_
    refine lf_iload_n d_W_law_1153 rfl rfl ?_
    refine gi_ishlN (a := 1) (s := ni) d_W_law_1154 (by omega) ?_
    refine gi_top (show ((1 * 2 ^ ni : Nat) : Int) = ((2 ^ ni : Nat) : Int) by rw [Nat.one_mul]) ?_
    refine gi_icmp_ge d_W_law_1155 (tgt := 1279) (by decide) (by omega) (fun hb1155 => ?_) (fun hb1155 => False.elim (by omega))
    refine lf_sub [1, 2, 3, 4, 5, 6, 7, 8, 9, 10, 11, 12, 13, 14, 15, 16, 17, 18, 19, 20, 21, 22, 23, 24, 25, 26] rfl ?_
    subst hn
    exact k1279 I1 hfr hlb
  | succ d ih =>
    intro n I1 hd hfr hlb
    have hn : n < 2 ^ ni := by omega
    obtain ⟨bn1, hbn⟩ : ∃ q : BST, q = (bExp (KP J) (NX J w s ni dt) (UL J w s ni ot no) (bQ b0 k) n b0) := ⟨_, rfl⟩
    have hbi := BI_exp hb0 hx9.2 (fun ch _ => nxt_lt) n (by omega)
    rw [← hbn] at hlb hbi ⊢
    have hxs : bS bn1 (bQ b0 k) = true := (hbi.2.2.2.1 _ hx9.2).1
    have hqk : I1 133 k = ((bQ b0 k : Nat) : Int) := by
      rw [hlb.1 k (Nat.lt_of_lt_of_le hk hbi.2.1), hbi.2.2.1 k hk]
    have hstep : (bExp (KP J) (NX J w s ni dt) (UL J w s ni ot no) (bQ b0 k) (n + 1) b0) = bStep (KP J) (NX J w s ni dt) (UL J w s ni ot no) (bQ b0 k) n bn1 := by rw [hbn]; rfl
    have hcl := chc_lt hnis hx9.1 hn
    obtain ⟨cho, hcho⟩ : ∃ q : Nat, q = (chc ni (bQ b0 k) n) := ⟨_, rfl⟩
    rw [← hcho] at hcl
    have hcm : cho % 2 ^ ni = n := by rw [hcho, chc_a hn]; exact cd_mod hn
    have hkp : kpt N s kd r2 r3 bar cho = (KP J) n := by
      rw [hst.2.2.2.2.1 cho, hcm]
      exact (hst.2.2.2.1 n hn).symm
    have vk : I1 130 cho = ((bn (kpt N s kd r2 r3 bar cho) : Nat) : Int) := (congrFun (hfr 130 (by decide) (by decide) (by decide) (by decide)) cho).trans (hkv cho hcl)
    have vy : I1 131 cho = ((nxt J w s ni dt cho : Nat) : Int) := (congrFun (hfr 131 (by decide) (by decide) (by decide) (by decide)) cho).trans (hnv cho hcl).1
    have vu : I1 132 cho = ((bn (unl2 J w s ot no cho) : Nat) : Int) := (congrFun (hfr 132 (by decide) (by decide) (by decide) (by decide)) cho).trans (hnv cho hcl).2
    have hyl : nxt J w s ni dt cho < 2 ^ (s - ni) := nxt_lt
    have hnx : (NX J w s ni dt) (bQ b0 k) n = nxt J w s ni dt cho := by rw [hcho]
    have hul : (UL J w s ni ot no) (bQ b0 k) n = unl2 J w s ot no cho := by rw [hcho]
    have hcn : bCnt bn1 ≤ 2 ^ (s - ni) := by rw [hbi.1.2.2.1]; exact cb_le _
    have vx : I1 136 (bQ b0 k) = ((bD bn1 (bQ b0 k) : Nat) : Int) := (hlb.2.1 _ hx9.1 hxs).1
    have hfr9 : -1 ≤ fnd bn1 ni ∧ fnd bn1 ni < 200 := by
      cases ex : bX bn1 with
      | none => rw [fnd_n ex]; omega
      | some q =>
        obtain ⟨q1, q2⟩ := q
        have g := hbi.1.2.2.2.2.2.2 q1 q2 ex
        have := chc_lt hnis (hbi.1.2.1 q1 g.1) g.2.1
        rw [fnd_s ex]; omega
    have hdx := (hbi.1.2.2.2.2.2.1 _ hxs).1
    cases ek : kpt N s kd r2 r3 bar cho with
    | false =>
      have ek0 : bn (kpt N s kd r2 r3 bar cho) = 0 := by rw [ek]; rfl
      have hst9 : (bExp (KP J) (NX J w s ni dt) (UL J w s ni ot no) (bQ b0 k) (n + 1) b0) = bn1 := by
        rw [hstep]
        unfold bStep
        rw [← hkp, ek]
        rfl
      cases ex : bX bn1 with
      | none =>
        have ef := fnd_n (ni := ni) ex
        refine lf_iload d_W_law_1150 rfl ?_
        refine lf_iconst d_W_law_1152 (v := Int32.ofInt ((1 : Nat) : Int)) rfl ?_
        refine lf_iload_n d_W_law_1153 rfl rfl ?_
        refine gi_ishlN (a := 1) (s := ni) d_W_law_1154 (by omega) ?_
        refine gi_top (show ((1 * 2 ^ ni : Nat) : Int) = ((2 ^ ni : Nat) : Int) by rw [Nat.one_mul]) ?_
        refine gi_icmp_ge d_W_law_1155 (tgt := 1279) (by decide) (by omega) (fun hb1155 => False.elim (by omega)) (fun hb1155 => ?_)
        refine lf_aload d_W_law_1158 rfl rfl ?_
        refine lf_iload d_W_law_1160 rfl ?_
        refine gi_ialoadN d_W_law_1162 h133 (by omega) ?_
        refine gi_top hqk ?_
        refine lf_iload_n d_W_law_1163 rfl rfl ?_
        refine gi_ishlN (a := (bQ b0 k)) (s := ni) d_W_law_1164 (by omega) ?_
        refine lf_iload d_W_law_1165 rfl ?_
        refine gi_iorN (a := ((bQ b0 k) * 2 ^ ni)) (b := n) d_W_law_1167 ?_
        refine gi_top (show ((bQ b0 k * 2 ^ ni ||| n : Nat) : Int) = ((cho : Nat) : Int) from by rw [hcho]; rfl) ?_
        refine lf_istore d_W_law_1168 (by decide +kernel) (L2 := [(28, _), (27, _), (26, _), (25, _), (24, _), (23, _), (22, _), (21, _), (20, _), (19, _), (18, _), (17, _), (16, _), (15, _), (14, _), (12, _), (11, _), (10, _), (9, _), (1, _), (0, _), (2, _), (3, _), (4, _), (5, _), (6, _), (7, _), (8, _)]) rfl ?_
        refine lf_iload d_W_law_1170 rfl ?_
        refine gi_if_ge d_W_law_1172 (tgt := 1196) (by decide) (by omega) (fun hb1172 => False.elim (by omega)) (fun hb1172 => ?_)
        refine lf_aload d_W_law_1175 rfl rfl ?_
        refine lf_iload d_W_law_1177 rfl ?_
        refine gi_zaloadN d_W_law_1179 h130 (by omega) ?_
        refine gi_top vk ?_
        refine gi_if_eq d_W_law_1180 (tgt := 1196) (by decide) (by omega) (fun hb1180 => ?_) (fun hb1180 => False.elim (by omega))
        refine lf_iload d_W_law_1196 rfl ?_
        refine lf_istore d_W_law_1198 (by decide +kernel) (L2 := [(25, _), (28, _), (27, _), (26, _), (24, _), (23, _), (22, _), (21, _), (20, _), (19, _), (18, _), (17, _), (16, _), (15, _), (14, _), (12, _), (11, _), (10, _), (9, _), (1, _), (0, _), (2, _), (3, _), (4, _), (5, _), (6, _), (7, _), (8, _)]) rfl ?_
        refine lf_aload d_W_law_1200 rfl rfl ?_
        refine lf_iload d_W_law_1202 rfl ?_
        refine gi_zaloadN d_W_law_1204 h130 (by omega) ?_
        refine gi_top vk ?_
        refine gi_if_eq d_W_law_1205 (tgt := 1273) (by decide) (by omega) (fun hb1205 => ?_) (fun hb1205 => False.elim (by omega))
        refine gi_iincN d_W_law_1273 rfl (by decide +kernel) (L2 := [(27, _), (25, _), (28, _), (26, _), (24, _), (23, _), (22, _), (21, _), (20, _), (19, _), (18, _), (17, _), (16, _), (15, _), (14, _), (12, _), (11, _), (10, _), (9, _), (1, _), (0, _), (2, _), (3, _), (4, _), (5, _), (6, _), (7, _), (8, _)]) rfl ?_
        refine lf_goto d_W_law_1276 (tgt := 1150) (by decide) ?_
        refine lf_sub [0, 3, 1, 4, 5, 6, 7, 8, 9, 10, 11, 12, 13, 14, 15, 16, 17, 18, 19, 20, 21, 22, 23, 24, 25, 26, 27] rfl ?_
        have g := ih (n + 1) I1 (by omega) hfr (by rw [hst9]; exact hlb)
        rw [hst9] at g
        exact g
      | some q =>
        obtain ⟨q1, q2⟩ := q
        have ef := fnd_s (ni := ni) ex
        refine lf_iload d_W_law_1150 rfl ?_
        refine lf_iconst d_W_law_1152 (v := Int32.ofInt ((1 : Nat) : Int)) rfl ?_
        refine lf_iload_n d_W_law_1153 rfl rfl ?_
        refine gi_ishlN (a := 1) (s := ni) d_W_law_1154 (by omega) ?_
        refine gi_top (show ((1 * 2 ^ ni : Nat) : Int) = ((2 ^ ni : Nat) : Int) by rw [Nat.one_mul]) ?_
        refine gi_icmp_ge d_W_law_1155 (tgt := 1279) (by decide) (by omega) (fun hb1155 => False.elim (by omega)) (fun hb1155 => ?_)
        refine lf_aload d_W_law_1158 rfl rfl ?_
        refine lf_iload d_W_law_1160 rfl ?_
        refine gi_ialoadN d_W_law_1162 h133 (by omega) ?_
        refine gi_top hqk ?_
        refine lf_iload_n d_W_law_1163 rfl rfl ?_
        refine gi_ishlN (a := (bQ b0 k)) (s := ni) d_W_law_1164 (by omega) ?_
        refine lf_iload d_W_law_1165 rfl ?_
        refine gi_iorN (a := ((bQ b0 k) * 2 ^ ni)) (b := n) d_W_law_1167 ?_
        refine gi_top (show ((bQ b0 k * 2 ^ ni ||| n : Nat) : Int) = ((cho : Nat) : Int) from by rw [hcho]; rfl) ?_
        refine lf_istore d_W_law_1168 (by decide +kernel) (L2 := [(28, _), (27, _), (26, _), (25, _), (24, _), (23, _), (22, _), (21, _), (20, _), (19, _), (18, _), (17, _), (16, _), (15, _), (14, _), (12, _), (11, _), (10, _), (9, _), (1, _), (0, _), (2, _), (3, _), (4, _), (5, _), (6, _), (7, _), (8, _)]) rfl ?_
        refine lf_iload d_W_law_1170 rfl ?_
        refine gi_if_ge d_W_law_1172 (tgt := 1196) (by decide) (by omega) (fun hb1172 => ?_) (fun hb1172 => False.elim (by omega))
        refine lf_iload d_W_law_1196 rfl ?_
        refine lf_istore d_W_law_1198 (by decide +kernel) (L2 := [(25, _), (28, _), (27, _), (26, _), (24, _), (23, _), (22, _), (21, _), (20, _), (19, _), (18, _), (17, _), (16, _), (15, _), (14, _), (12, _), (11, _), (10, _), (9, _), (1, _), (0, _), (2, _), (3, _), (4, _), (5, _), (6, _), (7, _), (8, _)]) rfl ?_
        refine lf_aload d_W_law_1200 rfl rfl ?_
        refine lf_iload d_W_law_1202 rfl ?_
        refine gi_zaloadN d_W_law_1204 h130 (by omega) ?_
        refine gi_top vk ?_
        refine gi_if_eq d_W_law_1205 (tgt := 1273) (by decide) (by omega) (fun hb1205 => ?_) (fun hb1205 => False.elim (by omega))
        refine gi_iincN d_W_law_1273 rfl (by decide +kernel) (L2 := [(27, _), (25, _), (28, _), (26, _), (24, _), (23, _), (22, _), (21, _), (20, _), (19, _), (18, _), (17, _), (16, _), (15, _), (14, _), (12, _), (11, _), (10, _), (9, _), (1, _), (0, _), (2, _), (3, _), (4, _), (5, _), (6, _), (7, _), (8, _)]) rfl ?_
        refine lf_goto d_W_law_1276 (tgt := 1150) (by decide) ?_
        refine lf_sub [0, 3, 1, 4, 5, 6, 7, 8, 9, 10, 11, 12, 13, 14, 15, 16, 17, 18, 19, 20, 21, 22, 23, 24, 25, 26, 27] rfl ?_
        have g := ih (n + 1) I1 (by omega) hfr (by rw [hst9]; exact hlb)
        rw [hst9] at g
        exact g
    | true =>
      have ek0 : bn (kpt N s kd r2 r3 bar cho) = 1 := by rw [ek]; rfl
      obtain ⟨bf, hbf⟩ : ∃ q : BST, q = bFind (UL J w s ni ot no) (bQ b0 k) n bn1 := ⟨_, rfl⟩
      have hst9 : (bExp (KP J) (NX J w s ni dt) (UL J w s ni ot no) (bQ b0 k) (n + 1) b0) = bGo (NX J w s ni dt) (bQ b0 k) n bf := by
        rw [hstep, hbf]
        unfold bStep
        rw [← hkp, ek]
        rfl
      have hbf1 : bCnt bf = bCnt bn1 ∧ bS bf = bS bn1 ∧ bD bf = bD bn1 := by rw [hbf]; exact ⟨rfl, rfl, rfl⟩
      have hlf : LBq I1 bf (2 ^ (s - ni)) (fst r2 s ni) := by rw [hbf]; exact hlb
      have hXf : bX bf = if (bX bn1).isNone && unl2 J w s ot no cho then some (bQ b0 k, n) else bX bn1 := by rw [hbf, ← hul]; rfl
      have j1200 : LXf TT cl6 X mi_W_law (40 + 11) (1000 + 200 * 11) D P PX kc ks 1200 [(25, .int (Int32.ofInt (fnd bf ni))), (28, .int (Int32.ofInt ((cho : Nat) : Int))), (27, .int (Int32.ofInt ((n : Nat) : Int))), (26, .int (Int32.ofInt ((k : Nat) : Int))), (24, .int (Int32.ofInt ((bCnt bf : Nat) : Int))), (23, .ref 136), (22, .ref 135), (21, .ref 134), (20, .ref 133), (19, .int (Int32.ofInt ((fst r2 s ni : Nat) : Int))), (18, .ref 132), (17, .ref 131), (16, .int (Int32.ofInt ((2 ^ (s - ni) : Nat) : Int))), (15, .ref 130), (14, .int (Int32.ofInt ((bn ib : Nat) : Int))), (12, .ref 129), (11, .ref 128), (10, .int (Int32.ofInt ((b : Nat) : Int))), (9, .int (Int32.ofInt ((2 ^ s : Nat) : Int))), (1, .ref 0), (0, .retAddr 1), (2, .int (Int32.ofInt ((1 : Nat) : Int))), (3, .int (Int32.ofInt ((ni : Nat) : Int))), (4, .int (Int32.ofInt ((c : Nat) : Int))), (5, .ref 100), (6, .int (Int32.ofInt ((s : Nat) : Int))), (7, .ref 124), (8, .ref 125)] [] (hp sh I1 J) := by
        cases es : bS bn1 (nxt J w s ni dt cho) with
        | true =>
          have vs : I1 136 (nxt J w s ni dt cho) = ((bD bn1 (nxt J w s ni dt cho) : Nat) : Int) := (hlb.2.1 _ hyl es).1
          have hdy := (hbi.1.2.2.2.2.2.1 _ es).1
          have hgo : (bExp (KP J) (NX J w s ni dt) (UL J w s ni ot no) (bQ b0 k) (n + 1) b0) = bf := by
            rw [hst9]
            unfold bGo
            rw [hnx, hbf1.2.1, es, if_pos rfl]
          refine lf_aload d_W_law_1200 rfl rfl ?_
          refine lf_iload d_W_law_1202 rfl ?_
          refine gi_zaloadN d_W_law_1204 h130 (by omega) ?_
          refine gi_top vk ?_
          refine gi_if_eq d_W_law_1205 (tgt := 1273) (by decide) (by omega) (fun hb1205 => False.elim (by omega)) (fun hb1205 => ?_)
          refine lf_aload d_W_law_1208 rfl rfl ?_
          refine lf_aload d_W_law_1210 rfl rfl ?_
          refine lf_iload d_W_law_1212 rfl ?_
          refine gi_ialoadN d_W_law_1214 h131 (by omega) ?_
          refine gi_top vy ?_
          refine gi_ialoadN d_W_law_1215 h136 (by omega) ?_
          refine gi_top vs ?_
          refine gi_if_ge d_W_law_1216 (tgt := 1273) (by decide) (by omega) (fun hb1216 => ?_) (fun hb1216 => False.elim (by omega))
          refine gi_iincN d_W_law_1273 rfl (by decide +kernel) (L2 := [(27, _), (25, _), (28, _), (26, _), (24, _), (23, _), (22, _), (21, _), (20, _), (19, _), (18, _), (17, _), (16, _), (15, _), (14, _), (12, _), (11, _), (10, _), (9, _), (1, _), (0, _), (2, _), (3, _), (4, _), (5, _), (6, _), (7, _), (8, _)]) rfl ?_
          refine lf_goto d_W_law_1276 (tgt := 1150) (by decide) ?_
          refine lf_sub [0, 3, 1, 4, 5, 6, 7, 8, 9, 10, 11, 12, 13, 14, 15, 16, 17, 18, 19, 20, 21, 22, 23, 24, 25, 26, 27] rfl ?_
          have g := ih (n + 1) I1 (by omega) hfr (by rw [hgo]; exact hlf)
          rw [hgo] at g
          exact g
        | false =>
          have vs : I1 136 (nxt J w s ni dt cho) = -1 := hlb.2.2 _ hyl es
          have hgo : (bExp (KP J) (NX J w s ni dt) (UL J w s ni ot no) (bQ b0 k) (n + 1) b0) = bMeet bf (nxt J w s ni dt cho) (bQ b0 k) n (bD bf (bQ b0 k) + 1) := by
            rw [hst9]
            unfold bGo
            rw [hnx, hbf1.2.1, es, if_neg (by decide)]
          have hcl9 : bCnt bf < 2 ^ (s - ni) + 1 := by rw [hbf1.1]; omega
          have hlm := LB_meet (x := bQ b0 k) (n := n) hlf (by rw [hbf1.2.1]; exact es)
          have vx1 : I1 136 (bQ b0 k) = ((bD bf (bQ b0 k) : Nat) : Int) := by rw [hbf1.2.2]; exact vx
          refine lf_aload d_W_law_1200 rfl rfl ?_
          refine lf_iload d_W_law_1202 rfl ?_
          refine gi_zaloadN d_W_law_1204 h130 (by omega) ?_
          refine gi_top vk ?_
          refine gi_if_eq d_W_law_1205 (tgt := 1273) (by decide) (by omega) (fun hb1205 => False.elim (by omega)) (fun hb1205 => ?_)
          refine lf_aload d_W_law_1208 rfl rfl ?_
          refine lf_aload d_W_law_1210 rfl rfl ?_
          refine lf_iload d_W_law_1212 rfl ?_
          refine gi_ialoadN d_W_law_1214 h131 (by omega) ?_
          refine gi_top vy ?_
          refine gi_ialoadN d_W_law_1215 h136 (by omega) ?_
          refine gi_top vs ?_
          refine gi_if_ge d_W_law_1216 (tgt := 1273) (by decide) (by omega) (fun hb1216 => False.elim (by omega)) (fun hb1216 => ?_)
          refine lf_aload d_W_law_1219 rfl rfl ?_
          refine lf_aload d_W_law_1221 rfl rfl ?_
          refine lf_iload d_W_law_1223 rfl ?_
          refine gi_ialoadN d_W_law_1225 h131 (by omega) ?_
          refine gi_top vy ?_
          refine lf_aload d_W_law_1226 rfl rfl ?_
          refine lf_aload d_W_law_1228 rfl rfl ?_
          refine lf_iload d_W_law_1230 rfl ?_
          refine gi_ialoadN d_W_law_1232 h133 (by omega) ?_
          refine gi_top hqk ?_
          refine gi_ialoadN d_W_law_1233 h136 (by omega) ?_
          refine gi_top vx1 ?_
          refine lf_iconst d_W_law_1234 (v := Int32.ofInt ((1 : Nat) : Int)) rfl ?_
          refine gi_iaddN (a := (bD bf (bQ b0 k))) (b := 1) d_W_law_1235 ?_
          refine gi_iastoreN d_W_law_1236 h136 (by omega) ?_
          refine lf_aload d_W_law_1237 rfl rfl ?_
          refine lf_aload d_W_law_1239 rfl rfl ?_
          refine lf_iload d_W_law_1241 rfl ?_
          refine gi_ialoadN d_W_law_1243 h131 (by omega) ?_
          refine gi_top ((congrFun (show (ipt I1 136 (nxt J w s ni dt cho) ((bD bf (bQ b0 k) + 1 : Nat) : Int)) 131 = I1 131 from by repeat rw [ipt_o (by decide)]) cho).trans vy) ?_
          refine lf_aload d_W_law_1244 rfl rfl ?_
          refine lf_iload d_W_law_1246 rfl ?_
          refine gi_ialoadN d_W_law_1248 h133 (by omega) ?_
          refine gi_top ((congrFun (show (ipt I1 136 (nxt J w s ni dt cho) ((bD bf (bQ b0 k) + 1 : Nat) : Int)) 133 = I1 133 from by repeat rw [ipt_o (by decide)]) k).trans hqk) ?_
          refine gi_iastoreN d_W_law_1249 h134 (by omega) ?_
          refine lf_aload d_W_law_1250 rfl rfl ?_
          refine lf_aload d_W_law_1252 rfl rfl ?_
          refine lf_iload d_W_law_1254 rfl ?_
          refine gi_ialoadN d_W_law_1256 h131 (by omega) ?_
          refine gi_top ((congrFun (show (ipt (ipt I1 136 (nxt J w s ni dt cho) ((bD bf (bQ b0 k) + 1 : Nat) : Int)) 134 (nxt J w s ni dt cho) ((bQ b0 k : Nat) : Int)) 131 = I1 131 from by repeat rw [ipt_o (by decide)]) cho).trans vy) ?_
          refine lf_iload d_W_law_1257 rfl ?_
          refine gi_iastoreN d_W_law_1259 h135 (by omega) ?_
          refine lf_aload d_W_law_1260 rfl rfl ?_
          refine lf_iload d_W_law_1262 rfl ?_
          refine lf_aload d_W_law_1264 rfl rfl ?_
          refine lf_iload d_W_law_1266 rfl ?_
          refine gi_ialoadN d_W_law_1268 h131 (by omega) ?_
          refine gi_top ((congrFun (show (ipt (ipt (ipt I1 136 (nxt J w s ni dt cho) ((bD bf (bQ b0 k) + 1 : Nat) : Int)) 134 (nxt J w s ni dt cho) ((bQ b0 k : Nat) : Int)) 135 (nxt J w s ni dt cho) ((n : Nat) : Int)) 131 = I1 131 from by repeat rw [ipt_o (by decide)]) cho).trans vy) ?_
          refine gi_iastoreN d_W_law_1269 h133 (by omega) ?_
          refine gi_iincN d_W_law_1270 rfl (by decide +kernel) (L2 := [(24, _), (25, _), (28, _), (27, _), (26, _), (23, _), (22, _), (21, _), (20, _), (19, _), (18, _), (17, _), (16, _), (15, _), (14, _), (12, _), (11, _), (10, _), (9, _), (1, _), (0, _), (2, _), (3, _), (4, _), (5, _), (6, _), (7, _), (8, _)]) rfl ?_
          refine gi_iincN d_W_law_1273 rfl (by decide +kernel) (L2 := [(27, _), (24, _), (25, _), (28, _), (26, _), (23, _), (22, _), (21, _), (20, _), (19, _), (18, _), (17, _), (16, _), (15, _), (14, _), (12, _), (11, _), (10, _), (9, _), (1, _), (0, _), (2, _), (3, _), (4, _), (5, _), (6, _), (7, _), (8, _)]) rfl ?_
          refine lf_goto d_W_law_1276 (tgt := 1150) (by decide) ?_
          refine lf_sub [0, 4, 2, 1, 5, 6, 7, 8, 9, 10, 11, 12, 13, 14, 15, 16, 17, 18, 19, 20, 21, 22, 23, 24, 25, 26, 27] rfl ?_
          have g := ih (n + 1) (ipt (ipt (ipt (ipt I1 136 (nxt J w s ni dt cho) ((bD bf (bQ b0 k) + 1 : Nat) : Int)) 134 (nxt J w s ni dt cho) ((bQ b0 k : Nat) : Int)) 135 (nxt J w s ni dt cho) ((n : Nat) : Int)) 133 (bCnt bf) (((nxt J w s ni dt cho) : Nat) : Int)) (by omega) (fun a h1 h2 h3 h4 => by rw [ipt_o h1, ipt_o h3, ipt_o h2, ipt_o h4]; exact hfr a h1 h2 h3 h4) (by rw [hgo]; exact hlm)
          rw [hgo] at g
          exact g
      cases ex : bX bn1 with
      | none =>
        have ef := fnd_n (ni := ni) ex
        cases eu : unl2 J w s ot no cho with
        | false =>
          have eu0 : bn (unl2 J w s ot no cho) = 0 := by rw [eu]; rfl
          have hff : fnd bf ni = fnd bn1 ni := by
            rw [ef, fnd_n]
            rw [hXf, ex, eu]
            rfl
          rw [hff, hbf1.1] at j1200
          refine lf_iload d_W_law_1150 rfl ?_
          refine lf_iconst d_W_law_1152 (v := Int32.ofInt ((1 : Nat) : Int)) rfl ?_
          refine lf_iload_n d_W_law_1153 rfl rfl ?_
          refine gi_ishlN (a := 1) (s := ni) d_W_law_1154 (by omega) ?_
          refine gi_top (show ((1 * 2 ^ ni : Nat) : Int) = ((2 ^ ni : Nat) : Int) by rw [Nat.one_mul]) ?_
          refine gi_icmp_ge d_W_law_1155 (tgt := 1279) (by decide) (by omega) (fun hb1155 => False.elim (by omega)) (fun hb1155 => ?_)
          refine lf_aload d_W_law_1158 rfl rfl ?_
          refine lf_iload d_W_law_1160 rfl ?_
          refine gi_ialoadN d_W_law_1162 h133 (by omega) ?_
          refine gi_top hqk ?_
          refine lf_iload_n d_W_law_1163 rfl rfl ?_
          refine gi_ishlN (a := (bQ b0 k)) (s := ni) d_W_law_1164 (by omega) ?_
          refine lf_iload d_W_law_1165 rfl ?_
          refine gi_iorN (a := ((bQ b0 k) * 2 ^ ni)) (b := n) d_W_law_1167 ?_
          refine gi_top (show ((bQ b0 k * 2 ^ ni ||| n : Nat) : Int) = ((cho : Nat) : Int) from by rw [hcho]; rfl) ?_
          refine lf_istore d_W_law_1168 (by decide +kernel) (L2 := [(28, _), (27, _), (26, _), (25, _), (24, _), (23, _), (22, _), (21, _), (20, _), (19, _), (18, _), (17, _), (16, _), (15, _), (14, _), (12, _), (11, _), (10, _), (9, _), (1, _), (0, _), (2, _), (3, _), (4, _), (5, _), (6, _), (7, _), (8, _)]) rfl ?_
          refine lf_iload d_W_law_1170 rfl ?_
          refine gi_if_ge d_W_law_1172 (tgt := 1196) (by decide) (by omega) (fun hb1172 => False.elim (by omega)) (fun hb1172 => ?_)
          refine lf_aload d_W_law_1175 rfl rfl ?_
          refine lf_iload d_W_law_1177 rfl ?_
          refine gi_zaloadN d_W_law_1179 h130 (by omega) ?_
          refine gi_top vk ?_
          refine gi_if_eq d_W_law_1180 (tgt := 1196) (by decide) (by omega) (fun hb1180 => False.elim (by omega)) (fun hb1180 => ?_)
          refine lf_aload d_W_law_1183 rfl rfl ?_
          refine lf_iload d_W_law_1185 rfl ?_
          refine gi_zaloadN d_W_law_1187 h132 (by omega) ?_
          refine gi_top vu ?_
          refine gi_if_eq d_W_law_1188 (tgt := 1196) (by decide) (by omega) (fun hb1188 => ?_) (fun hb1188 => False.elim (by omega))
          refine lf_iload d_W_law_1196 rfl ?_
          refine lf_istore d_W_law_1198 (by decide +kernel) (L2 := [(25, _), (28, _), (27, _), (26, _), (24, _), (23, _), (22, _), (21, _), (20, _), (19, _), (18, _), (17, _), (16, _), (15, _), (14, _), (12, _), (11, _), (10, _), (9, _), (1, _), (0, _), (2, _), (3, _), (4, _), (5, _), (6, _), (7, _), (8, _)]) rfl ?_
          exact j1200
        | true =>
          have eu0 : bn (unl2 J w s ot no cho) = 1 := by rw [eu]; rfl
          have hff : fnd bf ni = ((cho : Nat) : Int) := by
            rw [hcho, fnd_s (x := bQ b0 k) (ch := n)]
            rw [hXf, ex, eu]
            rfl
          rw [hff, hbf1.1] at j1200
          refine lf_iload d_W_law_1150 rfl ?_
          refine lf_iconst d_W_law_1152 (v := Int32.ofInt ((1 : Nat) : Int)) rfl ?_
          refine lf_iload_n d_W_law_1153 rfl rfl ?_
          refine gi_ishlN (a := 1) (s := ni) d_W_law_1154 (by omega) ?_
          refine gi_top (show ((1 * 2 ^ ni : Nat) : Int) = ((2 ^ ni : Nat) : Int) by rw [Nat.one_mul]) ?_
          refine gi_icmp_ge d_W_law_1155 (tgt := 1279) (by decide) (by omega) (fun hb1155 => False.elim (by omega)) (fun hb1155 => ?_)
          refine lf_aload d_W_law_1158 rfl rfl ?_
          refine lf_iload d_W_law_1160 rfl ?_
          refine gi_ialoadN d_W_law_1162 h133 (by omega) ?_
          refine gi_top hqk ?_
          refine lf_iload_n d_W_law_1163 rfl rfl ?_
          refine gi_ishlN (a := (bQ b0 k)) (s := ni) d_W_law_1164 (by omega) ?_
          refine lf_iload d_W_law_1165 rfl ?_
          refine gi_iorN (a := ((bQ b0 k) * 2 ^ ni)) (b := n) d_W_law_1167 ?_
          refine gi_top (show ((bQ b0 k * 2 ^ ni ||| n : Nat) : Int) = ((cho : Nat) : Int) from by rw [hcho]; rfl) ?_
          refine lf_istore d_W_law_1168 (by decide +kernel) (L2 := [(28, _), (27, _), (26, _), (25, _), (24, _), (23, _), (22, _), (21, _), (20, _), (19, _), (18, _), (17, _), (16, _), (15, _), (14, _), (12, _), (11, _), (10, _), (9, _), (1, _), (0, _), (2, _), (3, _), (4, _), (5, _), (6, _), (7, _), (8, _)]) rfl ?_
          refine lf_iload d_W_law_1170 rfl ?_
          refine gi_if_ge d_W_law_1172 (tgt := 1196) (by decide) (by omega) (fun hb1172 => False.elim (by omega)) (fun hb1172 => ?_)
          refine lf_aload d_W_law_1175 rfl rfl ?_
          refine lf_iload d_W_law_1177 rfl ?_
          refine gi_zaloadN d_W_law_1179 h130 (by omega) ?_
          refine gi_top vk ?_
          refine gi_if_eq d_W_law_1180 (tgt := 1196) (by decide) (by omega) (fun hb1180 => False.elim (by omega)) (fun hb1180 => ?_)
          refine lf_aload d_W_law_1183 rfl rfl ?_
          refine lf_iload d_W_law_1185 rfl ?_
          refine gi_zaloadN d_W_law_1187 h132 (by omega) ?_
          refine gi_top vu ?_
          refine gi_if_eq d_W_law_1188 (tgt := 1196) (by decide) (by omega) (fun hb1188 => False.elim (by omega)) (fun hb1188 => ?_)
          refine lf_iload d_W_law_1191 rfl ?_
          refine lf_goto d_W_law_1193 (tgt := 1198) (by decide) ?_
          refine lf_istore d_W_law_1198 (by decide +kernel) (L2 := [(25, _), (28, _), (27, _), (26, _), (24, _), (23, _), (22, _), (21, _), (20, _), (19, _), (18, _), (17, _), (16, _), (15, _), (14, _), (12, _), (11, _), (10, _), (9, _), (1, _), (0, _), (2, _), (3, _), (4, _), (5, _), (6, _), (7, _), (8, _)]) rfl ?_
          exact j1200
      | some q =>
        obtain ⟨q1, q2⟩ := q
        have ef := fnd_s (ni := ni) ex
        have hff : fnd bf ni = fnd bn1 ni := by
          rw [ef, fnd_s (x := q1) (ch := q2)]
          rw [hXf, ex]
          rfl
        rw [hff, hbf1.1] at j1200
        refine lf_iload d_W_law_1150 rfl ?_
        refine lf_iconst d_W_law_1152 (v := Int32.ofInt ((1 : Nat) : Int)) rfl ?_
        refine lf_iload_n d_W_law_1153 rfl rfl ?_
        refine gi_ishlN (a := 1) (s := ni) d_W_law_1154 (by omega) ?_
        refine gi_top (show ((1 * 2 ^ ni : Nat) : Int) = ((2 ^ ni : Nat) : Int) by rw [Nat.one_mul]) ?_
        refine gi_icmp_ge d_W_law_1155 (tgt := 1279) (by decide) (by omega) (fun hb1155 => False.elim (by omega)) (fun hb1155 => ?_)
        refine lf_aload d_W_law_1158 rfl rfl ?_
        refine lf_iload d_W_law_1160 rfl ?_
        refine gi_ialoadN d_W_law_1162 h133 (by omega) ?_
        refine gi_top hqk ?_
        refine lf_iload_n d_W_law_1163 rfl rfl ?_
        refine gi_ishlN (a := (bQ b0 k)) (s := ni) d_W_law_1164 (by omega) ?_
        refine lf_iload d_W_law_1165 rfl ?_
        refine gi_iorN (a := ((bQ b0 k) * 2 ^ ni)) (b := n) d_W_law_1167 ?_
        refine gi_top (show ((bQ b0 k * 2 ^ ni ||| n : Nat) : Int) = ((cho : Nat) : Int) from by rw [hcho]; rfl) ?_
        refine lf_istore d_W_law_1168 (by decide +kernel) (L2 := [(28, _), (27, _), (26, _), (25, _), (24, _), (23, _), (22, _), (21, _), (20, _), (19, _), (18, _), (17, _), (16, _), (15, _), (14, _), (12, _), (11, _), (10, _), (9, _), (1, _), (0, _), (2, _), (3, _), (4, _), (5, _), (6, _), (7, _), (8, _)]) rfl ?_
        refine lf_iload d_W_law_1170 rfl ?_
        refine gi_if_ge d_W_law_1172 (tgt := 1196) (by decide) (by omega) (fun hb1172 => ?_) (fun hb1172 => False.elim (by omega))
        refine lf_iload d_W_law_1196 rfl ?_
        refine lf_istore d_W_law_1198 (by decide +kernel) (L2 := [(25, _), (28, _), (27, _), (26, _), (24, _), (23, _), (22, _), (21, _), (20, _), (19, _), (18, _), (17, _), (16, _), (15, _), (14, _), (12, _), (11, _), (10, _), (9, _), (1, _), (0, _), (2, _), (3, _), (4, _), (5, _), (6, _), (7, _), (8, _)]) rfl ?_
        exact j1200
theorem law_j_o (hx : HX X L9 xs) {N ni c s no w : Nat} {kd : Nat → Int} {ow r2 r3 dt : Nat → Nat} {ot : Nat → Nat → Nat} {b : Nat} {ib : Bool} {bar : Int} (hst : STq sh I J N ni c s no w kd ow r2 r3 dt ot bar) (h131 : sh 131 = some (.inl (.int, 2 ^ s, 0, fun _ => none))) (h132 : sh 132 = some (.inl (.boolean, 2 ^ s, 0, fun _ => none))) (h133 : sh 133 = some (.inl (.int, 2 ^ (s - ni) + 1, 0, fun _ => none))) (h134 : sh 134 = some (.inl (.int, 2 ^ (s - ni), 0, fun _ => none))) (h135 : sh 135 = some (.inl (.int, 2 ^ (s - ni), 0, fun _ => none))) (h136 : sh 136 = some (.inl (.int, 2 ^ (s - ni), 0, fun _ => none))) (h130 : sh 130 = some (.inl (.boolean, 2 ^ s, 0, fun _ => none))) (hkv : ∀ j, j < 2 ^ s → I 130 j = ((bn (kpt N s kd r2 r3 bar j) : Nat) : Int)) (hnv : ∀ j, j < 2 ^ s → I 131 j = ((nxt J w s ni dt j : Nat) : Int) ∧ I 132 j = ((bn (unl2 J w s ot no j) : Nat) : Int)) (k1285 : ∀ I1 : mI, (∀ a, ¬ a = 133 → ¬ a = 134 → ¬ a = 135 → ¬ a = 136 → I1 a = I a) → LBq I1 (bfs (KP J) (NX J w s ni dt) (UL J w s ni ot no) (2 ^ ni) (fst r2 s ni) (2 ^ (s - ni))) (2 ^ (s - ni)) (fst r2 s ni) → LXf TT cl6 X mi_W_law (40 + 11) (1000 + 200 * 11) D P PX kc ks 1285 [(25, .int (Int32.ofInt (fnd (bfs (KP J) (NX J w s ni dt) (UL J w s ni ot no) (2 ^ ni) (fst r2 s ni) (2 ^ (s - ni))) ni))), (24, .int (Int32.ofInt ((bCnt (bfs (KP J) (NX J w s ni dt) (UL J w s ni ot no) (2 ^ ni) (fst r2 s ni) (2 ^ (s - ni))) : Nat) : Int))), (23, .ref 136), (22, .ref 135), (21, .ref 134), (20, .ref 133), (19, .int (Int32.ofInt ((fst r2 s ni : Nat) : Int))), (18, .ref 132), (17, .ref 131), (16, .int (Int32.ofInt ((2 ^ (s - ni) : Nat) : Int))), (15, .ref 130), (14, .int (Int32.ofInt ((bn ib : Nat) : Int))), (12, .ref 129), (11, .ref 128), (10, .int (Int32.ofInt ((b : Nat) : Int))), (9, .int (Int32.ofInt ((2 ^ s : Nat) : Int))), (1, .ref 0), (0, .retAddr 1), (2, .int (Int32.ofInt ((1 : Nat) : Int))), (3, .int (Int32.ofInt ((ni : Nat) : Int))), (4, .int (Int32.ofInt ((c : Nat) : Int))), (5, .ref 100), (6, .int (Int32.ofInt ((s : Nat) : Int))), (7, .ref 124), (8, .ref 125)] [] (hp sh I1 J)) : ∀ (d k : Nat) (I1 : mI), k + d = 2 ^ (s - ni) + 1 → (∀ a, ¬ a = 133 → ¬ a = 134 → ¬ a = 135 → ¬ a = 136 → I1 a = I a) → LBq I1 (bfs (KP J) (NX J w s ni dt) (UL J w s ni ot no) (2 ^ ni) (fst r2 s ni) k) (2 ^ (s - ni)) (fst r2 s ni) → LXf TT cl6 X mi_W_law (40 + 11) (1000 + 200 * 11) D P PX kc ks 1140 [(26, .int (Int32.ofInt ((k : Nat) : Int))), (25, .int (Int32.ofInt (fnd (bfs (KP J) (NX J w s ni dt) (UL J w s ni ot no) (2 ^ ni) (fst r2 s ni) k) ni))), (24, .int (Int32.ofInt ((bCnt (bfs (KP J) (NX J w s ni dt) (UL J w s ni ot no) (2 ^ ni) (fst r2 s ni) k) : Nat) : Int))), (23, .ref 136), (22, .ref 135), (21, .ref 134), (20, .ref 133), (19, .int (Int32.ofInt ((fst r2 s ni : Nat) : Int))), (18, .ref 132), (17, .ref 131), (16, .int (Int32.ofInt ((2 ^ (s - ni) : Nat) : Int))), (15, .ref 130), (14, .int (Int32.ofInt ((bn ib : Nat) : Int))), (12, .ref 129), (11, .ref 128), (10, .int (Int32.ofInt ((b : Nat) : Int))), (9, .int (Int32.ofInt ((2 ^ s : Nat) : Int))), (1, .ref 0), (0, .retAddr 1), (2, .int (Int32.ofInt ((1 : Nat) : Int))), (3, .int (Int32.ofInt ((ni : Nat) : Int))), (4, .int (Int32.ofInt ((c : Nat) : Int))), (5, .ref 100), (6, .int (Int32.ofInt ((s : Nat) : Int))), (7, .ref 124), (8, .ref 125)] [] (hp sh I1 J) := by
  have hL := hst.1
  obtain ⟨hrk, hrw, hSH, hC, hk3, h124, h125, h126, hd5, ho5, hcs, hsw⟩ := id hL
  obtain ⟨ki, kc9, kg, hni1, hnis, hsN, hN23, hs7⟩ := id hrk
  obtain ⟨⟨f, hs0, hf⟩, hr, hR⟩ := id hrw
  have hM := hSH.1
  have hp7 := pow2_7 hs7
  have hp0 := Nat.two_pow_pos s
  obtain ⟨⟨fv, hv1, hv2⟩, hv3, hv4⟩ := hst.2.1
  have hth := hst.2.2.1
  have hkb := hth.2.2.2.2.2.1
  have hp9 := pow2_7 (s := s - ni) (by omega)
  have hBI := fun k => BI_srch (J := J) (w := w) (ot := ot) (no := no) hC.1 k
  have hcS : ∀ k, bCnt (bfs (KP J) (NX J w s ni dt) (UL J w s ni ot no) (2 ^ ni) (fst r2 s ni) k) ≤ 2 ^ (s - ni) := fun k => by rw [(hBI k).2.2.1]; exact cb_le _
  intro d
  induction d with
  | zero =>
    intro k I1 hd hfr hlb
    have hc9 := hcS k
    have hE : (bfs (KP J) (NX J w s ni dt) (UL J w s ni ot no) (2 ^ ni) (fst r2 s ni) k) = (bfs (KP J) (NX J w s ni dt) (UL J w s ni ot no) (2 ^ ni) (fst r2 s ni) (2 ^ (s - ni))) := bfs_end (hcS (2 ^ (s - ni))) k (by omega)
    refine lf_iload d_W_law_1140 rfl ?_
    refine lf_iload d_W_law_1142 rfl ?_
    refine gi_icmp_ge d_W_law_1144 (tgt := 1285) (by decide) (by omega) (fun hb1144 => ?_) (fun hb1144 => False.elim (by omega))
    refine lf_sub [1, 2, 3, 4, 5, 6, 7, 8, 9, 10, 11, 12, 13, 14, 15, 16, 17, 18, 19, 20, 21, 22, 23, 24, 25] rfl ?_
    rw [hE] at hlb ⊢
    exact k1285 I1 hfr hlb
  | succ d ih =>
    intro k I1 hd hfr hlb
    have hc9 := hcS k
    by_cases hk : k < bCnt (bfs (KP J) (NX J w s ni dt) (UL J w s ni ot no) (2 ^ ni) (fst r2 s ni) k)
    · refine lf_iload d_W_law_1140 rfl ?_
      refine lf_iload d_W_law_1142 rfl ?_
      refine gi_icmp_ge d_W_law_1144 (tgt := 1285) (by decide) (by omega) (fun hb1144 => False.elim (by omega)) (fun hb1144 => ?_)
      refine lf_iconst d_W_law_1147 (v := Int32.ofInt ((0 : Nat) : Int)) rfl ?_
      refine lf_istore d_W_law_1148 (by decide +kernel) (L2 := [(27, _), (26, _), (25, _), (24, _), (23, _), (22, _), (21, _), (20, _), (19, _), (18, _), (17, _), (16, _), (15, _), (14, _), (12, _), (11, _), (10, _), (9, _), (1, _), (0, _), (2, _), (3, _), (4, _), (5, _), (6, _), (7, _), (8, _)]) rfl ?_
      have hE : (bfs (KP J) (NX J w s ni dt) (UL J w s ni ot no) (2 ^ ni) (fst r2 s ni) (k + 1)) = bExp (KP J) (NX J w s ni dt) (UL J w s ni ot no) (bQ (bfs (KP J) (NX J w s ni dt) (UL J w s ni ot no) (2 ^ ni) (fst r2 s ni) k) k) (2 ^ ni) (bfs (KP J) (NX J w s ni dt) (UL J w s ni ot no) (2 ^ ni) (fst r2 s ni) k) := if_pos hk
      refine law_j_i hx hst h131 h132 h133 h134 h135 h136 h130 hkv hnv (hBI k) hk (fun I2 f2 l2 => ?_) (2 ^ ni) 0 I1 (by omega) hfr hlb
      rw [← hE] at l2 ⊢
      refine gi_iincN d_W_law_1279 rfl (by decide +kernel) (L2 := [(26, _), (25, _), (24, _), (23, _), (22, _), (21, _), (20, _), (19, _), (18, _), (17, _), (16, _), (15, _), (14, _), (12, _), (11, _), (10, _), (9, _), (1, _), (0, _), (2, _), (3, _), (4, _), (5, _), (6, _), (7, _), (8, _)]) rfl ?_
      refine lf_goto d_W_law_1282 (tgt := 1140) (by decide) ?_
      exact ih (k + 1) I2 (by omega) f2 l2
    · have hE : (bfs (KP J) (NX J w s ni dt) (UL J w s ni ot no) (2 ^ ni) (fst r2 s ni) k) = (bfs (KP J) (NX J w s ni dt) (UL J w s ni ot no) (2 ^ ni) (fst r2 s ni) (2 ^ (s - ni))) := (bfs_end (by omega) (2 ^ (s - ni)) (by omega)).symm
      refine lf_iload d_W_law_1140 rfl ?_
      refine lf_iload d_W_law_1142 rfl ?_
      refine gi_icmp_ge d_W_law_1144 (tgt := 1285) (by decide) (by omega) (fun hb1144 => ?_) (fun hb1144 => False.elim (by omega))
      refine lf_sub [1, 2, 3, 4, 5, 6, 7, 8, 9, 10, 11, 12, 13, 14, 15, 16, 17, 18, 19, 20, 21, 22, 23, 24, 25] rfl ?_
      rw [hE] at hlb ⊢
      exact k1285 I1 hfr hlb
theorem law_j (hx : HX X L9 xs) {N ni c s no w : Nat} {kd : Nat → Int} {ow r2 r3 dt : Nat → Nat} {ot : Nat → Nat → Nat} {b : Nat} {ib : Bool} {bar : Int} (hst : STq sh I J N ni c s no w kd ow r2 r3 dt ot bar) (h131 : sh 131 = some (.inl (.int, 2 ^ s, 0, fun _ => none))) (h132 : sh 132 = some (.inl (.boolean, 2 ^ s, 0, fun _ => none))) (h133 : sh 133 = some (.inl (.int, 2 ^ (s - ni) + 1, 0, fun _ => none))) (h134 : sh 134 = some (.inl (.int, 2 ^ (s - ni), 0, fun _ => none))) (h135 : sh 135 = some (.inl (.int, 2 ^ (s - ni), 0, fun _ => none))) (h136 : sh 136 = some (.inl (.int, 2 ^ (s - ni), 0, fun _ => none))) (h130 : sh 130 = some (.inl (.boolean, 2 ^ s, 0, fun _ => none))) (hkv : ∀ j, j < 2 ^ s → I 130 j = ((bn (kpt N s kd r2 r3 bar j) : Nat) : Int)) (hnv : ∀ j, j < 2 ^ s → I 131 j = ((nxt J w s ni dt j : Nat) : Int) ∧ I 132 j = ((bn (unl2 J w s ot no j) : Nat) : Int)) (hz : ∀ j, I 133 j = 0 ∧ I 134 j = 0 ∧ I 135 j = 0) (hm : ∀ j, j < 2 ^ (s - ni) → I 136 j = -1) (k1285 : ∀ I1 : mI, (∀ a, ¬ a = 133 → ¬ a = 134 → ¬ a = 135 → ¬ a = 136 → I1 a = I a) → LBq I1 (bfs (KP J) (NX J w s ni dt) (UL J w s ni ot no) (2 ^ ni) (fst r2 s ni) (2 ^ (s - ni))) (2 ^ (s - ni)) (fst r2 s ni) → LXf TT cl6 X mi_W_law (40 + 11) (1000 + 200 * 11) D P PX kc ks 1285 [(25, .int (Int32.ofInt (fnd (bfs (KP J) (NX J w s ni dt) (UL J w s ni ot no) (2 ^ ni) (fst r2 s ni) (2 ^ (s - ni))) ni))), (24, .int (Int32.ofInt ((bCnt (bfs (KP J) (NX J w s ni dt) (UL J w s ni ot no) (2 ^ ni) (fst r2 s ni) (2 ^ (s - ni))) : Nat) : Int))), (23, .ref 136), (22, .ref 135), (21, .ref 134), (20, .ref 133), (19, .int (Int32.ofInt ((fst r2 s ni : Nat) : Int))), (18, .ref 132), (17, .ref 131), (16, .int (Int32.ofInt ((2 ^ (s - ni) : Nat) : Int))), (15, .ref 130), (14, .int (Int32.ofInt ((bn ib : Nat) : Int))), (12, .ref 129), (11, .ref 128), (10, .int (Int32.ofInt ((b : Nat) : Int))), (9, .int (Int32.ofInt ((2 ^ s : Nat) : Int))), (1, .ref 0), (0, .retAddr 1), (2, .int (Int32.ofInt ((1 : Nat) : Int))), (3, .int (Int32.ofInt ((ni : Nat) : Int))), (4, .int (Int32.ofInt ((c : Nat) : Int))), (5, .ref 100), (6, .int (Int32.ofInt ((s : Nat) : Int))), (7, .ref 124), (8, .ref 125)] [] (hp sh I1 J)) : LXf TT cl6 X mi_W_law (40 + 11) (1000 + 200 * 11) D P PX kc ks 1119 [(23, .ref 136), (22, .ref 135), (21, .ref 134), (20, .ref 133), (19, .int (Int32.ofInt ((fst r2 s ni : Nat) : Int))), (18, .ref 132), (17, .ref 131), (16, .int (Int32.ofInt ((2 ^ (s - ni) : Nat) : Int))), (15, .ref 130), (14, .int (Int32.ofInt ((bn ib : Nat) : Int))), (12, .ref 129), (11, .ref 128), (10, .int (Int32.ofInt ((b : Nat) : Int))), (9, .int (Int32.ofInt ((2 ^ s : Nat) : Int))), (1, .ref 0), (0, .retAddr 1), (2, .int (Int32.ofInt ((1 : Nat) : Int))), (3, .int (Int32.ofInt ((ni : Nat) : Int))), (4, .int (Int32.ofInt ((c : Nat) : Int))), (5, .ref 100), (6, .int (Int32.ofInt ((s : Nat) : Int))), (7, .ref 124), (8, .ref 125)] [] (hp sh I J) := by
  have hL := hst.1
  obtain ⟨hrk, hrw, hSH, hC, hk3, h124, h125, h126, hd5, ho5, hcs, hsw⟩ := id hL
  obtain ⟨ki, kc9, kg, hni1, hnis, hsN, hN23, hs7⟩ := id hrk
  obtain ⟨⟨f, hs0, hf⟩, hr, hR⟩ := id hrw
  have hM := hSH.1
  have hp7 := pow2_7 hs7
  have hp0 := Nat.two_pow_pos s
  obtain ⟨⟨fv, hv1, hv2⟩, hv3, hv4⟩ := hst.2.1
  have hth := hst.2.2.1
  have hkb := hth.2.2.2.2.2.1
  have hp9 := pow2_7 (s := s - ni) (by omega)
  have hfl : fst r2 s ni < 2 ^ (s - ni) := fst_lt (fun j a b => (kc9 j a b).2.2.1)
  have hini : (bfs (KP J) (NX J w s ni dt) (UL J w s ni ot no) (2 ^ ni) (fst r2 s ni) 0) = bIni (fst r2 s ni) := rfl
  refine lf_aload d_W_law_1119 rfl rfl ?_
  refine lf_iload d_W_law_1121 rfl ?_
  refine lf_iconst d_W_law_1123 (v := Int32.ofInt ((0 : Nat) : Int)) rfl ?_
  refine gi_iastoreN d_W_law_1124 h136 (by omega) ?_
  refine lf_aload d_W_law_1125 rfl rfl ?_
  refine lf_iconst d_W_law_1127 (v := Int32.ofInt ((0 : Nat) : Int)) rfl ?_
  refine lf_iload d_W_law_1128 rfl ?_
  refine gi_iastoreN d_W_law_1130 h133 (by omega) ?_
  refine lf_iconst d_W_law_1131 (v := Int32.ofInt ((1 : Nat) : Int)) rfl ?_
  refine lf_istore d_W_law_1132 (by decide +kernel) (L2 := [(24, _), (23, _), (22, _), (21, _), (20, _), (19, _), (18, _), (17, _), (16, _), (15, _), (14, _), (12, _), (11, _), (10, _), (9, _), (1, _), (0, _), (2, _), (3, _), (4, _), (5, _), (6, _), (7, _), (8, _)]) rfl ?_
  refine lf_iconst d_W_law_1134 (v := Int32.ofInt (-1)) rfl ?_
  refine lf_istore d_W_law_1135 (by decide +kernel) (L2 := [(25, _), (24, _), (23, _), (22, _), (21, _), (20, _), (19, _), (18, _), (17, _), (16, _), (15, _), (14, _), (12, _), (11, _), (10, _), (9, _), (1, _), (0, _), (2, _), (3, _), (4, _), (5, _), (6, _), (7, _), (8, _)]) rfl ?_
  refine lf_iconst d_W_law_1137 (v := Int32.ofInt ((0 : Nat) : Int)) rfl ?_
  refine lf_istore d_W_law_1138 (by decide +kernel) (L2 := [(26, _), (25, _), (24, _), (23, _), (22, _), (21, _), (20, _), (19, _), (18, _), (17, _), (16, _), (15, _), (14, _), (12, _), (11, _), (10, _), (9, _), (1, _), (0, _), (2, _), (3, _), (4, _), (5, _), (6, _), (7, _), (8, _)]) rfl ?_
  refine law_j_o hx hst h131 h132 h133 h134 h135 h136 h130 hkv hnv k1285 (2 ^ (s - ni) + 1) 0 _ (by omega) (fun a h1 h2 h3 h4 => by rw [ipt_o h1, ipt_o h4]) ⟨fun j hj => ?_, fun y hy hb => ?_, fun y hy hb => ?_⟩
  · have hj0 : j < 1 := hj
    obtain rfl : j = 0 := by omega
    exact ipt_e
  · have e : y = fst r2 s ni := of_decide_eq_true hb
    subst e
    refine ⟨?_, fun z => absurd rfl z⟩
    rw [ipt_o (by decide)]
    exact ipt_e
  · have e : ¬ y = fst r2 s ni := of_decide_eq_false hb
    rw [ipt_o (by decide), ipt_s, if_neg e]
    exact hm y hy
end LA6
