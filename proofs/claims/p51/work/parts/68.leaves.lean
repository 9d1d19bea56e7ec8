section LW4
variable {X : XT} {L9 : Nat} {xs : Nat → Int32} {sh : sM} {I : mI} {J : mJ}

variable {D : mF} {P : Option Value → mF → Prop} {PX : String → mF → Prop} {kc ks : Nat}

/-- what is told of the lines; 2: nothing -/
def tvl (s : Nat) (kd : Nat → Int) (pa pb : Nat → Nat) (src : Nat → Nat) : Nat → Nat → Nat
  | 0, _ => 0
  | n + 1, j => if j = n then (if n < s then src n else tldN (kd n) (tvl s kd pa pb src n (pa n)) (tvl s kd pa pb src n (pb n))) else tvl s kd pa pb src n j
theorem tvl_st {s : Nat} {kd : Nat → Int} {pa pb : Nat → Nat} {src : Nat → Nat} {n m j : Nat} (h : j < n) (h2 : n ≤ m) : tvl s kd pa pb src m j = tvl s kd pa pb src n j := by
  induction m with
  | zero => omega
  | succ m ih =>
    rcases Nat.lt_or_ge m n with q | q
    · have : n = m + 1 := by omega
      rw [this]
    · show (if j = m then _ else tvl s kd pa pb src m j) = _
      rw [if_neg (by omega)]
      exact ih q
theorem tvl_src {s : Nat} {kd : Nat → Int} {pa pb : Nat → Nat} {src : Nat → Nat} {m j : Nat} (h : j < s) (hm : j < m) : tvl s kd pa pb src m j = src j := by
  rw [tvl_st (n := j + 1) (by omega) (by omega)]
  show (if j = j then _ else _) = _
  rw [if_pos rfl, if_pos h]
theorem tvl_gt {s : Nat} {kd : Nat → Int} {pa pb : Nat → Nat} {src : Nat → Nat} {m j : Nat} (h : s ≤ j) (hm : j < m) (ha : pa j < j) (hb : pb j < j) : tvl s kd pa pb src m j = tldN (kd j) (tvl s kd pa pb src m (pa j)) (tvl s kd pa pb src m (pb j)) := by
  rw [tvl_st (n := j + 1) (by omega) (by omega), tvl_st (m := m) (n := j) ha (by omega), tvl_st (m := m) (n := j) hb (by omega)]
  show (if j = j then _ else _) = _
  rw [if_pos rfl, if_neg (by omega)]
/-- the sources' values at a node of the tree -/
def srD (dc ch k : Nat) : Nat := if k < dc then (ch / 2 ^ k &&& 1) else 2
def TD (N s : Nat) (kd : Nat → Int) (r2 r3 : Nat → Nat) (dc ch j : Nat) : Nat := tvl s kd r2 (pbF kd r2 r3) (srD dc ch) N j
theorem TD_s {N s : Nat} {kd : Nat → Int} {r2 r3 : Nat → Nat} {dc ch j : Nat} (h : j < s) (h2 : s ≤ N) : TD N s kd r2 r3 dc ch j = srD dc ch j := tvl_src h (by omega)
theorem TD_g {N s : Nat} {kd : Nat → Int} {r2 r3 : Nat → Nat} {dc ch j : Nat} (h : s ≤ j) (h2 : j < N) (ha : r2 j < j) (hb : r3 j < j) : TD N s kd r2 r3 dc ch j = tldN (kd j) (TD N s kd r2 r3 dc ch (r2 j)) (TD N s kd r2 r3 dc ch (r3 j)) := by
  unfold TD
  rw [tvl_gt h h2 ha (pb_lt ha hb)]
  unfold pbF
  split
  · rename_i q
    exact tldN_pb q
  · rfl
theorem TD_le {N ni s : Nat} {kd : Nat → Int} {ow r2 r3 : Nat → Nat} (hrk : RKq N ni s kd ow r2 r3) (dc ch : Nat) : ∀ m j, j < m → j < N → TD N s kd r2 r3 dc ch j ≤ 2 := by
  obtain ⟨ki, kc9, kg, hni1, hnis, hsN, hN23, hs7⟩ := hrk
  intro m
  induction m with
  | zero => intro j hj; omega
  | succ m ih =>
    intro j hj hjN
    rcases Nat.lt_or_ge j s with q | q
    · rw [TD_s q hsN]
      unfold srD
      split
      · have := Nat.and_le_right (n := ch / 2 ^ j) (m := 1)
        omega
      · omega
    · obtain ⟨g1, g2, g3, g4, -⟩ := kg j q hjN
      rw [TD_g q hjN g3 g4]
      exact tldN_lt g1 (ih _ (by omega) (by omega)) (ih _ (by omega) (by omega))
/-- the law's tests at a node -/
def bbR (T : Nat → Nat) (b tn : Nat) : Nat := if T b = 2 then 2 else T b ^^^ tn
def lfQ (T : Nat → Nat) (a b tn : Nat) (bar : Int) : Prop := (0 ≤ bar ∧ T bar.toNat = 0) ∨ (¬ T a = 2 ∧ T a = bbR T b tn)
def lfB (T : Nat → Nat) (a b tn : Nat) (bar : Int) : Bool := (decide (0 ≤ bar) && decide (T bar.toNat = 0)) || (!decide (T a = 2) && decide (T a = bbR T b tn))
theorem lfB_t {T : Nat → Nat} {a b tn : Nat} {bar : Int} : lfB T a b tn bar = true ↔ lfQ T a b tn bar := by
  unfold lfB lfQ
  simp
/-- the leaves below a node, or less than 0 -/
def lvR (T : Nat → Nat → Nat → Nat) (a b tn : Nat) (bar : Int) : Nat → Nat → Nat → Int
  | 0, dc, ch => if lfB (T dc ch) a b tn bar = true then 1 else (ch : Int) - 100000
  | d + 1, dc, ch => if lfB (T dc ch) a b tn bar = true then 1 else if lvR T a b tn bar d (dc + 1) ch < 0 then lvR T a b tn bar d (dc + 1) ch else if lvR T a b tn bar d (dc + 1) (ch ||| 1 * 2 ^ dc) < 0 then lvR T a b tn bar d (dc + 1) (ch ||| 1 * 2 ^ dc) else lvR T a b tn bar d (dc + 1) ch + lvR T a b tn bar d (dc + 1) (ch ||| 1 * 2 ^ dc)
theorem lv_leaf {T : Nat → Nat → Nat → Nat} {a b tn : Nat} {bar : Int} {d dc ch : Nat} (h : lfQ (T dc ch) a b tn bar) : lvR T a b tn bar d dc ch = 1 := by
  cases d with
  | zero => exact if_pos (lfB_t.mpr h)
  | succ d => exact if_pos (lfB_t.mpr h)
theorem lv_0 {T : Nat → Nat → Nat → Nat} {a b tn : Nat} {bar : Int} {dc ch : Nat} (h : ¬ lfQ (T dc ch) a b tn bar) : lvR T a b tn bar 0 dc ch = (ch : Int) - 100000 := if_neg (fun q => h (lfB_t.mp q))
theorem lv_s {T : Nat → Nat → Nat → Nat} {a b tn : Nat} {bar : Int} {d dc ch : Nat} (h : ¬ lfQ (T dc ch) a b tn bar) : lvR T a b tn bar (d + 1) dc ch = if lvR T a b tn bar d (dc + 1) ch < 0 then lvR T a b tn bar d (dc + 1) ch else if lvR T a b tn bar d (dc + 1) (ch ||| 1 * 2 ^ dc) < 0 then lvR T a b tn bar d (dc + 1) (ch ||| 1 * 2 ^ dc) else lvR T a b tn bar d (dc + 1) ch + lvR T a b tn bar d (dc + 1) (ch ||| 1 * 2 ^ dc) := if_neg (fun q => h (lfB_t.mp q))
theorem or_p2 {ch dc : Nat} (h : ch < 2 ^ dc) : ch ||| 1 * 2 ^ dc < 2 ^ (dc + 1) := Nat.or_lt_two_pow (Nat.lt_trans h (Nat.pow_lt_pow_right (by decide) (by omega))) (by rw [Nat.one_mul]; exact Nat.pow_lt_pow_right (by decide) (by omega))
theorem lv_rng {T : Nat → Nat → Nat → Nat} {a b tn : Nat} {bar : Int} : ∀ d dc ch : Nat, ch < 2 ^ dc → -100000 ≤ lvR T a b tn bar d dc ch ∧ (dc + d ≤ 7 → lvR T a b tn bar d dc ch ≤ ((2 ^ d : Nat) : Int)) := by
  intro d
  induction d with
  | zero =>
    intro dc ch hc
    by_cases h : lfQ (T dc ch) a b tn bar
    · rw [lv_leaf h]
      exact ⟨by omega, fun _ => by omega⟩
    · rw [lv_0 h]
      refine ⟨by omega, fun h7 => ?_⟩
      have := pow2_7 (s := dc) (by omega)
      omega
  | succ d ih =>
    intro dc ch hc
    have hp : 2 ^ (d + 1) = 2 ^ d + 2 ^ d := by rw [Nat.pow_succ]; omega
    have hp0 := Nat.two_pow_pos d
    by_cases h : lfQ (T dc ch) a b tn bar
    · rw [lv_leaf h]
      exact ⟨by omega, fun _ => by omega⟩
    · rw [lv_s h]
      have h1 := ih (dc + 1) ch (Nat.lt_trans hc (Nat.pow_lt_pow_right (by decide) (by omega)))
      have h2 := ih (dc + 1) (ch ||| 1 * 2 ^ dc) (or_p2 hc)
      split
      · exact ⟨h1.1, fun h7 => by have := h1.2 (by omega); omega⟩
      · split
        · exact ⟨h2.1, fun h7 => by have := h2.2 (by omega); omega⟩
        · exact ⟨by omega, fun h7 => by have := h1.2 (by omega); have := h2.2 (by omega); omega⟩
/-- forgetting a row of the law -/
theorem lf_drop {mi : MI} {pc fr lo q : Nat} {L : List (Nat × Value)} {S : List Value} {I1 : mI} {J1 : mJ} {e : sS} (hq : sh q = none) (hcl : mCl (hp sh I J)) (hI : ∀ a, ¬ a = q → I1 a = I a) (hJ : ∀ a, ¬ a = q → J1 a = J a) (hL1 : mcL (hp sh I J) L) (hS1 : mcS (hp sh I J) S) (hD : mIn D (hp sh I J)) (k : LXf TT cl6 X mi fr lo D P PX kc ks pc L S (hp sh I J)) : LXf TT cl6 X mi fr lo D P PX kc ks pc L S (hp (spt sh q e) I1 J1) := by
  refine lf_forget (h1 := hp sh I J) (fun i e1 h => ?_) hcl hL1 hS1 hD k
  by_cases z : i = q
  · subst z
    rw [hp_no hq] at h
    cases h
  · unfold hp at *
    rw [spt_o z, ← h]
    congr 1
    funext s1
    exact sden_eq (hI i z) (hJ i z)
theorem mcL_n {h : mF} : mcL h [] := fun z hz => by cases hz
theorem mcL_c {h : mF} {i : Nat} {v : Value} {L : List (Nat × Value)} (h1 : mcV h v) (h2 : mcL h L) : mcL h ((i, v) :: L) := fun z hz => by
  rcases List.mem_cons.mp hz with rfl | hz
  · exact h1
  · exact h2 z hz
def lcN : Nat → Nat | 0 => 1 | d + 1 => lcN d + lcN d + 1
theorem w_lv_l (hx : HX X L9 xs) {N ni s : Nat} {kd : Nat → Int} {ow r2 r3 : Nat → Nat} (hrw : RW sh I N kd ow r2 r3) (hrk : RKq N ni s kd ow r2 r3) {q ch dc a b tn lev : Nat} {bar : Int} (hq : 124 ≤ q) (hlev : 0 < lev) (hdc : dc ≤ s) (hch : ch < 2 ^ dc) (k81 : ∀ I1 : mI, (∀ a, ¬ a = q → I1 a = I a) ∧ (∀ j, j < N → I1 q j = ((TD N s kd r2 r3 dc ch j : Nat) : Int)) → LXf TT cl6 X mi_W_leaves (40 + lev) (1000 + 200 * lev) D P PX kc ks 81 [(8, .ref q), (0, .ref 100), (1, .int (Int32.ofInt ((s : Nat) : Int))), (2, .int (Int32.ofInt ((a : Nat) : Int))), (3, .int (Int32.ofInt ((b : Nat) : Int))), (4, .int (Int32.ofInt ((tn : Nat) : Int))), (5, .int (Int32.ofInt (bar))), (6, .int (Int32.ofInt ((ch : Nat) : Int))), (7, .int (Int32.ofInt ((dc : Nat) : Int)))] [] (hp (spt sh q (.inl (.int, N, 0, fun _ => none))) I1 (jzr J q))) : ∀ (d k : Nat) (I1 : mI), k + d = N → (∀ a, ¬ a = q → I1 a = I a) ∧ (∀ j, j < k → I1 q j = ((TD N s kd r2 r3 dc ch j : Nat) : Int)) → LXf TT cl6 X mi_W_leaves (40 + lev) (1000 + 200 * lev) D P PX kc ks 9 [(9, .int (Int32.ofInt ((k : Nat) : Int))), (8, .ref q), (0, .ref 100), (1, .int (Int32.ofInt ((s : Nat) : Int))), (2, .int (Int32.ofInt ((a : Nat) : Int))), (3, .int (Int32.ofInt ((b : Nat) : Int))), (4, .int (Int32.ofInt ((tn : Nat) : Int))), (5, .int (Int32.ofInt (bar))), (6, .int (Int32.ofInt ((ch : Nat) : Int))), (7, .int (Int32.ofInt ((dc : Nat) : Int)))] [] (hp (spt sh q (.inl (.int, N, 0, fun _ => none))) I1 (jzr J q)) := by
  have hle := TD_le hrk dc ch
  obtain ⟨⟨f, hs0, hf⟩, hr, hR⟩ := hrw
  obtain ⟨ki, kc9, kg, hni1, hnis, hsN, hN23, hs7⟩ := hrk
  have hch7 : ch < 128 := Nat.lt_of_lt_of_le hch (pow2_7 (by omega))
  intro d
  induction d with
  | zero =>
    intro k I1 hd hb
    obtain rfl : N = k := by omega
    refine lf_iload d_W_leaves_9 rfl ?_
    refine lf_aload_n d_W_leaves_11 rfl rfl rfl ?_
    refine gi_len d_W_leaves_12 (show spt sh q (.inl (.int, N, 0, fun _ => none)) 100 = _ from (spt_o (by omega)).trans hs0) ?_
    refine gi_icmp_ge d_W_leaves_13 (tgt := 81) (by decide) (by omega) (fun hb13 => ?_) (fun hb13 => False.elim (by omega))
    refine lf_sub [1, 2, 3, 4, 5, 6, 7, 8, 9] rfl ?_
    exact k81 I1 hb
  | succ d ih =>
    intro k I1 hd hb
    have e100 : I1 (101 + k) = I (101 + k) := hb.1 _ (by omega)
    have g0 : I1 (101 + k) 0 = kd k := (congrFun e100 0).trans (hR k (by omega)).1
    have g2 : I1 (101 + k) 2 = r2 k := (congrFun e100 2).trans (hR k (by omega)).2.2.1
    have g3 : I1 (101 + k) 3 = r3 k := (congrFun e100 3).trans (hR k (by omega)).2.2.2
    have nxt9 : ∀ z : Nat, z = TD N s kd r2 r3 dc ch k → LXf TT cl6 X mi_W_leaves (40 + lev) (1000 + 200 * lev) D P PX kc ks 9 [(9, .int (Int32.ofInt ((k + 1 : Nat) : Int))), (8, .ref q), (0, .ref 100), (1, .int (Int32.ofInt ((s : Nat) : Int))), (2, .int (Int32.ofInt ((a : Nat) : Int))), (3, .int (Int32.ofInt ((b : Nat) : Int))), (4, .int (Int32.ofInt ((tn : Nat) : Int))), (5, .int (Int32.ofInt (bar))), (6, .int (Int32.ofInt ((ch : Nat) : Int))), (7, .int (Int32.ofInt ((dc : Nat) : Int)))] [] (hp (spt sh q (.inl (.int, N, 0, fun _ => none))) (ipt I1 q k ((z : Nat) : Int)) (jzr J q)) := by
      intro z hz
      refine ih (k + 1) _ (by omega) ⟨fun a ha => (ipt_o ha).trans (hb.1 a ha), fun j hj => ?_⟩
      rw [ipt_s]
      by_cases e : j = k
      · rw [if_pos e, e, hz]
      · rw [if_neg e]
        exact hb.2 j (by omega)
    rcases Nat.lt_or_ge k s with q9 | q9
    · rcases Nat.lt_or_ge k dc with q8 | q8
      · refine lf_iload d_W_leaves_9 rfl ?_
        refine lf_aload_n d_W_leaves_11 rfl rfl rfl ?_
        refine gi_len d_W_leaves_12 (show spt sh q (.inl (.int, N, 0, fun _ => none)) 100 = _ from (spt_o (by omega)).trans hs0) ?_
        refine gi_icmp_ge d_W_leaves_13 (tgt := 81) (by decide) (by omega) (fun hb13 => False.elim (by omega)) (fun hb13 => ?_)
        refine lf_aload d_W_leaves_16 rfl rfl ?_
        refine lf_iload d_W_leaves_18 rfl ?_
        refine lf_iload d_W_leaves_20 rfl ?_
        refine lf_iload_n d_W_leaves_22 rfl rfl ?_
        refine gi_icmp_ge d_W_leaves_23 (tgt := 47) (by decide) (by omega) (fun hb23 => False.elim (by omega)) (fun hb23 => ?_)
        refine lf_iload d_W_leaves_26 rfl ?_
        refine lf_iload d_W_leaves_28 rfl ?_
        refine gi_icmp_ge d_W_leaves_30 (tgt := 43) (by decide) (by omega) (fun hb30 => False.elim (by omega)) (fun hb30 => ?_)
        refine lf_iload d_W_leaves_33 rfl ?_
        refine lf_iload d_W_leaves_35 rfl ?_
        refine gi_ishrN (a := ch) (s := k) d_W_leaves_37 (by omega) (by omega) ?_
        refine lf_iconst d_W_leaves_38 (v := Int32.ofInt ((1 : Nat) : Int)) rfl ?_
        refine gi_iandN (a := (ch / 2 ^ k)) (b := 1) d_W_leaves_39 ?_
        refine lf_goto d_W_leaves_40 (tgt := 74) (by decide) ?_
        refine gi_iastoreN d_W_leaves_74 (show spt sh q (.inl (.int, N, 0, fun _ => none)) q = _ from spt_s) (by omega) ?_
        refine gi_iincN d_W_leaves_75 rfl (by decide +kernel) (L2 := [(9, _), (8, _), (0, _), (1, _), (2, _), (3, _), (4, _), (5, _), (6, _), (7, _)]) rfl ?_
        refine lf_goto d_W_leaves_78 (tgt := 9) (by decide) ?_
        exact nxt9 _ (by rw [TD_s (N := N) (s := s) (kd := kd) (r2 := r2) (r3 := r3) (dc := dc) (ch := ch) (j := k) (by omega) hsN]; exact (if_pos (show k < dc from q8)).symm)
      · refine lf_iload d_W_leaves_9 rfl ?_
        refine lf_aload_n d_W_leaves_11 rfl rfl rfl ?_
        refine gi_len d_W_leaves_12 (show spt sh q (.inl (.int, N, 0, fun _ => none)) 100 = _ from (spt_o (by omega)).trans hs0) ?_
        refine gi_icmp_ge d_W_leaves_13 (tgt := 81) (by decide) (by omega) (fun hb13 => False.elim (by omega)) (fun hb13 => ?_)
        refine lf_aload d_W_leaves_16 rfl rfl ?_
        refine lf_iload d_W_leaves_18 rfl ?_
        refine lf_iload d_W_leaves_20 rfl ?_
        refine lf_iload_n d_W_leaves_22 rfl rfl ?_
        refine gi_icmp_ge d_W_leaves_23 (tgt := 47) (by decide) (by omega) (fun hb23 => False.elim (by omega)) (fun hb23 => ?_)
        refine lf_iload d_W_leaves_26 rfl ?_
        refine lf_iload d_W_leaves_28 rfl ?_
        refine gi_icmp_ge d_W_leaves_30 (tgt := 43) (by decide) (by omega) (fun hb30 => ?_) (fun hb30 => False.elim (by omega))
        refine lf_iconst d_W_leaves_43 (v := Int32.ofInt ((2 : Nat) : Int)) rfl ?_
        refine lf_goto d_W_leaves_44 (tgt := 74) (by decide) ?_
        refine gi_iastoreN d_W_leaves_74 (show spt sh q (.inl (.int, N, 0, fun _ => none)) q = _ from spt_s) (by omega) ?_
        refine gi_iincN d_W_leaves_75 rfl (by decide +kernel) (L2 := [(9, _), (8, _), (0, _), (1, _), (2, _), (3, _), (4, _), (5, _), (6, _), (7, _)]) rfl ?_
        refine lf_goto d_W_leaves_78 (tgt := 9) (by decide) ?_
        exact nxt9 2 (by rw [TD_s (N := N) (s := s) (kd := kd) (r2 := r2) (r3 := r3) (dc := dc) (ch := ch) (j := k) (by omega) hsN]; exact (if_neg (show ¬ k < dc by omega)).symm)
    · obtain ⟨g4, g5, g6, g7, -⟩ := kg k q9 (by omega)
      have l2 := hle N (r2 k) (by omega) (by omega)
      have l3 := hle N (r3 k) (by omega) (by omega)
      refine lf_iload d_W_leaves_9 rfl ?_
      refine lf_aload_n d_W_leaves_11 rfl rfl rfl ?_
      refine gi_len d_W_leaves_12 (show spt sh q (.inl (.int, N, 0, fun _ => none)) 100 = _ from (spt_o (by omega)).trans hs0) ?_
      refine gi_icmp_ge d_W_leaves_13 (tgt := 81) (by decide) (by omega) (fun hb13 => False.elim (by omega)) (fun hb13 => ?_)
      refine lf_aload d_W_leaves_16 rfl rfl ?_
      refine lf_iload d_W_leaves_18 rfl ?_
      refine lf_iload d_W_leaves_20 rfl ?_
      refine lf_iload_n d_W_leaves_22 rfl rfl ?_
      refine gi_icmp_ge d_W_leaves_23 (tgt := 47) (by decide) (by omega) (fun hb23 => ?_) (fun hb23 => False.elim (by omega))
      refine lf_aload_n d_W_leaves_47 rfl rfl rfl ?_
      refine lf_iload d_W_leaves_48 rfl ?_
      refine gi_aald (kd := 0) d_W_leaves_50 rfl ((spt_o (by omega)).trans hs0) (by omega) (hf k (by omega)) ?_
      refine lf_iconst d_W_leaves_51 (v := Int32.ofInt ((0 : Nat) : Int)) rfl ?_
      refine gi_ialoadN d_W_leaves_52 (show spt sh q (.inl (.int, N, 0, fun _ => none)) (101 + k) = _ from (spt_o (by omega)).trans (hr k (by omega))) (by omega) ?_
      refine gi_top g0 ?_
      refine lf_aload d_W_leaves_53 rfl rfl ?_
      refine lf_aload_n d_W_leaves_55 rfl rfl rfl ?_
      refine lf_iload d_W_leaves_56 rfl ?_
      refine gi_aald (kd := 0) d_W_leaves_58 rfl ((spt_o (by omega)).trans hs0) (by omega) (hf k (by omega)) ?_
      refine lf_iconst d_W_leaves_59 (v := Int32.ofInt ((2 : Nat) : Int)) rfl ?_
      refine gi_ialoadN d_W_leaves_60 (show spt sh q (.inl (.int, N, 0, fun _ => none)) (101 + k) = _ from (spt_o (by omega)).trans (hr k (by omega))) (by omega) ?_
      refine gi_top g2 ?_
      refine gi_ialoadN d_W_leaves_61 (show spt sh q (.inl (.int, N, 0, fun _ => none)) q = _ from spt_s) (by omega) ?_
      refine gi_top (hb.2 (r2 k) (by omega)) ?_
      refine lf_aload d_W_leaves_62 rfl rfl ?_
      refine lf_aload_n d_W_leaves_64 rfl rfl rfl ?_
      refine lf_iload d_W_leaves_65 rfl ?_
      refine gi_aald (kd := 0) d_W_leaves_67 rfl ((spt_o (by omega)).trans hs0) (by omega) (hf k (by omega)) ?_
      refine lf_iconst d_W_leaves_68 (v := Int32.ofInt ((3 : Nat) : Int)) rfl ?_
      refine gi_ialoadN d_W_leaves_69 (show spt sh q (.inl (.int, N, 0, fun _ => none)) (101 + k) = _ from (spt_o (by omega)).trans (hr k (by omega))) (by omega) ?_
      refine gi_top g3 ?_
      refine gi_ialoadN d_W_leaves_70 (show spt sh q (.inl (.int, N, 0, fun _ => none)) q = _ from spt_s) (by omega) ?_
      refine gi_top (hb.2 (r3 k) (by omega)) ?_
      refine gw_callP s_W_leaves_71 (w_told hx g4 l2 l3) (S := [_, _]) rfl rfl gcR_1 hlev (by decide +kernel) (Nat.le_of_ble_eq_true rfl) ?_
      refine gi_iastoreN d_W_leaves_74 (show spt sh q (.inl (.int, N, 0, fun _ => none)) q = _ from spt_s) (by omega) ?_
      refine gi_iincN d_W_leaves_75 rfl (by decide +kernel) (L2 := [(9, _), (8, _), (0, _), (1, _), (2, _), (3, _), (4, _), (5, _), (6, _), (7, _)]) rfl ?_
      refine lf_goto d_W_leaves_78 (tgt := 9) (by decide) ?_
      exact nxt9 _ (TD_g (N := N) (s := s) (kd := kd) (r2 := r2) (r3 := r3) (dc := dc) (ch := ch) (j := k) q9 (by omega) g6 g7).symm
theorem w_leaves (hx : HX X L9 xs) {N ni s : Nat} {kd : Nat → Int} {ow r2 r3 : Nat → Nat} (hrw : RW sh I N kd ow r2 r3) (hrk : RKq N ni s kd ow r2 r3) {q a b tn : Nat} {bar : Int} (hq : 124 ≤ q) (hqn : sh q = none) (ha : a < N) (hb9 : b < N) (htn : tn < 2) (hbar : bar = -1 ∨ (0 ≤ bar ∧ bar < (N : Int))) : ∀ (d dc ch : Nat), dc + d = s → ch < 2 ^ dc → EVa TT cl6 X mi_W_leaves (1 + d) (lcN d) (23 * lcN d) [.ref 100, .int (Int32.ofInt ((s : Nat) : Int)), .int (Int32.ofInt ((a : Nat) : Int)), .int (Int32.ofInt ((b : Nat) : Int)), .int (Int32.ofInt ((tn : Nat) : Int)), .int (Int32.ofInt (bar)), .int (Int32.ofInt ((ch : Nat) : Int)), .int (Int32.ofInt ((dc : Nat) : Int))] sh I J (fun v s1 I1 J1 => v = some (.int (Int32.ofInt (lvR (TD N s kd r2 r3) a b tn bar d dc ch))) ∧ s1 = sh ∧ I1 = I ∧ J1 = J) := by
  have hs7 : s ≤ 7 := hrk.2.2.2.2.2.2.2
  have hsN : s ≤ N := hrk.2.2.2.2.2.1
  have hN23 : N ≤ 23 := hrk.2.2.2.2.2.2.1
  have hle := TD_le hrk
  obtain ⟨⟨f, hs0, hf⟩, hr, hR⟩ := id hrw
  intro d
  induction d with
  | zero =>
    intro dc ch hd hch
    have hch7 : ch < 128 := Nat.lt_of_lt_of_le hch (pow2_7 (by omega))
    have hrng := lv_rng (T := TD N s kd r2 r3) (a := a) (b := b) (tn := tn) (bar := bar) 0 dc ch hch
    refine gw_enter (hx_ok hx) (by decide +kernel) (Nat.le_of_ble_eq_true rfl) (L := [(0, _), (1, _), (2, _), (3, _), (4, _), (5, _), (6, _), (7, _)]) rfl ?_
    refine lf_cl (fun hcl => ?_)
    have h100 : (hp sh I J 100).isSome = true := by rw [hp_at hs0]; rfl
    have j133 : lfQ (TD N s kd r2 r3 dc ch) a b tn bar → LXf TT cl6 X mi_W_leaves (40 + (1 + 0)) (1000 + 200 * (1 + 0)) (hp sh I J) (pst (fun v s1 I1 J1 => v = some (.int (Int32.ofInt (lvR (TD N s kd r2 r3) a b tn bar 0 dc ch))) ∧ s1 = sh ∧ I1 = I ∧ J1 = J)) (psx fun _ _ _ _ => False) 0 0 132 [] [] (hp sh I J) := by
      intro hl
      refine lf_iconst d_W_leaves_132 (v := Int32.ofInt ((1 : Nat) : Int)) rfl ?_
      refine gw_iret d_W_leaves_133 rfl ?_
      exact ⟨by rw [lv_leaf hl] <;> rfl, rfl, rfl, rfl⟩
    have jdrop : ∀ (pc : Nat) (L : List (Nat × Value)) (I1 : mI), (∀ a, ¬ a = q → I1 a = I a) → mcL (hp sh I J) L → LXf TT cl6 X mi_W_leaves (40 + (1 + 0)) (1000 + 200 * (1 + 0)) (hp sh I J) (pst (fun v s1 I1 J1 => v = some (.int (Int32.ofInt (lvR (TD N s kd r2 r3) a b tn bar 0 dc ch))) ∧ s1 = sh ∧ I1 = I ∧ J1 = J)) (psx fun _ _ _ _ => False) 0 0 pc L [] (hp sh I J) → LXf TT cl6 X mi_W_leaves (40 + (1 + 0)) (1000 + 200 * (1 + 0)) (hp sh I J) (pst (fun v s1 I1 J1 => v = some (.int (Int32.ofInt (lvR (TD N s kd r2 r3) a b tn bar 0 dc ch))) ∧ s1 = sh ∧ I1 = I ∧ J1 = J)) (psx fun _ _ _ _ => False) 0 0 pc L [] (hp (spt sh q (.inl (.int, N, 0, fun _ => none))) I1 (jzr J q)) := by
      intro pc L I1 h1 h2 h3
      exact lf_drop hqn hcl h1 (fun a ha => jzr_o ha) h2 (fun v hv => by cases hv) mIn_rf h3
    have j134 : ¬ lfQ (TD N s kd r2 r3 dc ch) a b tn bar → LXf TT cl6 X mi_W_leaves (40 + (1 + 0)) (1000 + 200 * (1 + 0)) (hp sh I J) (pst (fun v s1 I1 J1 => v = some (.int (Int32.ofInt (lvR (TD N s kd r2 r3) a b tn bar 0 dc ch))) ∧ s1 = sh ∧ I1 = I ∧ J1 = J)) (psx fun _ _ _ _ => False) 0 0 134 [(0, .ref 100), (1, .int (Int32.ofInt ((s : Nat) : Int))), (2, .int (Int32.ofInt ((a : Nat) : Int))), (3, .int (Int32.ofInt ((b : Nat) : Int))), (4, .int (Int32.ofInt ((tn : Nat) : Int))), (5, .int (Int32.ofInt (bar))), (6, .int (Int32.ofInt ((ch : Nat) : Int))), (7, .int (Int32.ofInt ((dc : Nat) : Int)))] [] (hp sh I J) := by
      intro hl
      refine lf_iload d_W_leaves_134 rfl ?_
      refine lf_iload_n d_W_leaves_136 rfl rfl ?_
      refine gi_icmp_ne d_W_leaves_137 (tgt := 146) (by decide) (by omega) (fun hb137 => False.elim (by omega)) (fun hb137 => ?_)
      refine lf_iload d_W_leaves_140 rfl ?_
      refine gi_pushi s_W_leaves_142 ?_
      refine gi_top (b := ((100000 : Nat) : Int)) rfl ?_
      refine gi_isub d_W_leaves_144 ?_
      refine gw_iret d_W_leaves_145 rfl ?_
      exact ⟨by rw [lv_0 hl] <;> rfl, rfl, rfl, rfl⟩
    have k81 : ∀ I1 : mI, (∀ a, ¬ a = q → I1 a = I a) ∧ (∀ j, j < N → I1 q j = ((TD N s kd r2 r3 dc ch j : Nat) : Int)) → LXf TT cl6 X mi_W_leaves (40 + (1 + 0)) (1000 + 200 * (1 + 0)) (hp sh I J) (pst (fun v s1 I1 J1 => v = some (.int (Int32.ofInt (lvR (TD N s kd r2 r3) a b tn bar 0 dc ch))) ∧ s1 = sh ∧ I1 = I ∧ J1 = J)) (psx fun _ _ _ _ => False) 0 0 81 [(8, .ref q), (0, .ref 100), (1, .int (Int32.ofInt ((s : Nat) : Int))), (2, .int (Int32.ofInt ((a : Nat) : Int))), (3, .int (Int32.ofInt ((b : Nat) : Int))), (4, .int (Int32.ofInt ((tn : Nat) : Int))), (5, .int (Int32.ofInt (bar))), (6, .int (Int32.ofInt ((ch : Nat) : Int))), (7, .int (Int32.ofInt ((dc : Nat) : Int)))] [] (hp (spt sh q (.inl (.int, N, 0, fun _ => none))) I1 (jzr J q)) := by
      intro I1 hb
      have ea := hb.2 a (by omega)
      have eb := hb.2 b (by omega)
      have la := hle dc ch N a (by omega) (by omega)
      have lb9 := hle dc ch N b (by omega) (by omega)
      have hx1 : TD N s kd r2 r3 dc ch b ^^^ tn < 4 := Nat.xor_lt_two_pow (n := 2) (by omega) (by omega)
      have ebar : 0 ≤ bar → I1 q bar.toNat = ((TD N s kd r2 r3 dc ch bar.toNat : Nat) : Int) := fun z => hb.2 _ (by omega)
      have lbar : 0 ≤ bar → TD N s kd r2 r3 dc ch bar.toNat ≤ 2 := fun z => hle dc ch N _ (by omega) (by omega)
      have j100 : ∀ bb : Nat, bb < 4 → bb = bbR (TD N s kd r2 r3 dc ch) b tn → LXf TT cl6 X mi_W_leaves (40 + (1 + 0)) (1000 + 200 * (1 + 0)) (hp sh I J) (pst (fun v s1 I1 J1 => v = some (.int (Int32.ofInt (lvR (TD N s kd r2 r3) a b tn bar 0 dc ch))) ∧ s1 = sh ∧ I1 = I ∧ J1 = J)) (psx fun _ _ _ _ => False) 0 0 100 [(8, .ref q), (0, .ref 100), (1, .int (Int32.ofInt ((s : Nat) : Int))), (2, .int (Int32.ofInt ((a : Nat) : Int))), (3, .int (Int32.ofInt ((b : Nat) : Int))), (4, .int (Int32.ofInt ((tn : Nat) : Int))), (5, .int (Int32.ofInt (bar))), (6, .int (Int32.ofInt ((ch : Nat) : Int))), (7, .int (Int32.ofInt ((dc : Nat) : Int)))] [.int (Int32.ofInt ((bb : Nat) : Int))] (hp (spt sh q (.inl (.int, N, 0, fun _ => none))) I1 (jzr J q)) := by
        intro bb hbb4 hbb
        refine lf_istore d_W_leaves_100 (by decide +kernel) (L2 := [(9, _), (8, _), (0, _), (1, _), (2, _), (3, _), (4, _), (5, _), (6, _), (7, _)]) rfl ?_
        refine lf_iload d_W_leaves_102 rfl ?_
        refine gi_if_lt d_W_leaves_104 (tgt := 115) (by decide) (by omega) (fun hb104 => ?_) (fun hb104 => ?_)
        · refine lf_aload d_W_leaves_115 rfl rfl ?_
          refine lf_iload_n d_W_leaves_117 rfl rfl ?_
          refine gi_ialoadN d_W_leaves_118 (show spt sh q (.inl (.int, N, 0, fun _ => none)) q = _ from spt_s) (by omega) ?_
          refine gi_top ea ?_
          refine lf_iconst d_W_leaves_119 (v := Int32.ofInt ((2 : Nat) : Int)) rfl ?_
          refine gi_icmp_eq d_W_leaves_120 (tgt := 134) (by decide) (by omega) (fun hb120 => ?_) (fun hb120 => ?_)
          · refine lf_sub [2, 3, 4, 5, 6, 7, 8, 9] rfl ?_
            refine jdrop _ _ _ hb.1 (mcL_c h100 (mcL_c trivial (mcL_c trivial (mcL_c trivial (mcL_c trivial (mcL_c trivial (mcL_c trivial (mcL_c trivial mcL_n)))))))) (j134 (fun hq9 => ?_))
            rcases hq9 with ⟨z1, z2⟩ | ⟨z1, z2⟩ <;> omega
          · refine lf_aload d_W_leaves_123 rfl rfl ?_
            refine lf_iload_n d_W_leaves_125 rfl rfl ?_
            refine gi_ialoadN d_W_leaves_126 (show spt sh q (.inl (.int, N, 0, fun _ => none)) q = _ from spt_s) (by omega) ?_
            refine gi_top ea ?_
            refine lf_iload d_W_leaves_127 rfl ?_
            refine gi_icmp_ne d_W_leaves_129 (tgt := 134) (by decide) (by omega) (fun hb129 => ?_) (fun hb129 => ?_)
            · refine lf_sub [2, 3, 4, 5, 6, 7, 8, 9] rfl ?_
              refine jdrop _ _ _ hb.1 (mcL_c h100 (mcL_c trivial (mcL_c trivial (mcL_c trivial (mcL_c trivial (mcL_c trivial (mcL_c trivial (mcL_c trivial mcL_n)))))))) (j134 (fun hq9 => ?_))
              rcases hq9 with ⟨z1, z2⟩ | ⟨z1, z2⟩ <;> omega
            · refine lf_sub [] rfl ?_
              refine jdrop _ _ _ hb.1 (fun z hz => by cases hz) (j133 ?_)
              first
                | exact Or.inl ⟨by omega, by omega⟩
                | exact Or.inr ⟨by omega, by omega⟩
        · refine lf_aload d_W_leaves_107 rfl rfl ?_
          refine lf_iload d_W_leaves_109 rfl ?_
          refine gi_iaload d_W_leaves_111 (show spt sh q (.inl (.int, N, 0, fun _ => none)) q = _ from spt_s) (by omega) ?_
          refine gi_top (ebar (by omega)) ?_
          refine gi_if_eq d_W_leaves_112 (tgt := 132) (by decide) (by omega) (fun hb112 => ?_) (fun hb112 => ?_)
          · refine lf_sub [] rfl ?_
            refine jdrop _ _ _ hb.1 (fun z hz => by cases hz) (j133 ?_)
            first
              | exact Or.inl ⟨by omega, by omega⟩
              | exact Or.inr ⟨by omega, by omega⟩
          · refine lf_aload d_W_leaves_115 rfl rfl ?_
            refine lf_iload_n d_W_leaves_117 rfl rfl ?_
            refine gi_ialoadN d_W_leaves_118 (show spt sh q (.inl (.int, N, 0, fun _ => none)) q = _ from spt_s) (by omega) ?_
            refine gi_top ea ?_
            refine lf_iconst d_W_leaves_119 (v := Int32.ofInt ((2 : Nat) : Int)) rfl ?_
            refine gi_icmp_eq d_W_leaves_120 (tgt := 134) (by decide) (by omega) (fun hb120 => ?_) (fun hb120 => ?_)
            · refine lf_sub [2, 3, 4, 5, 6, 7, 8, 9] rfl ?_
              refine jdrop _ _ _ hb.1 (mcL_c h100 (mcL_c trivial (mcL_c trivial (mcL_c trivial (mcL_c trivial (mcL_c trivial (mcL_c trivial (mcL_c trivial mcL_n)))))))) (j134 (fun hq9 => ?_))
              rcases hq9 with ⟨z1, z2⟩ | ⟨z1, z2⟩ <;> omega
            · refine lf_aload d_W_leaves_123 rfl rfl ?_
              refine lf_iload_n d_W_leaves_125 rfl rfl ?_
              refine gi_ialoadN d_W_leaves_126 (show spt sh q (.inl (.int, N, 0, fun _ => none)) q = _ from spt_s) (by omega) ?_
              refine gi_top ea ?_
              refine lf_iload d_W_leaves_127 rfl ?_
              refine gi_icmp_ne d_W_leaves_129 (tgt := 134) (by decide) (by omega) (fun hb129 => ?_) (fun hb129 => ?_)
              · refine lf_sub [2, 3, 4, 5, 6, 7, 8, 9] rfl ?_
                refine jdrop _ _ _ hb.1 (mcL_c h100 (mcL_c trivial (mcL_c trivial (mcL_c trivial (mcL_c trivial (mcL_c trivial (mcL_c trivial (mcL_c trivial mcL_n)))))))) (j134 (fun hq9 => ?_))
                rcases hq9 with ⟨z1, z2⟩ | ⟨z1, z2⟩ <;> omega
              · refine lf_sub [] rfl ?_
                refine jdrop _ _ _ hb.1 (fun z hz => by cases hz) (j133 ?_)
                first
                  | exact Or.inl ⟨by omega, by omega⟩
                  | exact Or.inr ⟨by omega, by omega⟩
      refine lf_aload d_W_leaves_81 rfl rfl ?_
      refine lf_iload_n d_W_leaves_83 rfl rfl ?_
      refine gi_ialoadN d_W_leaves_84 (show spt sh q (.inl (.int, N, 0, fun _ => none)) q = _ from spt_s) (by omega) ?_
      refine gi_top eb ?_
      refine lf_iconst d_W_leaves_85 (v := Int32.ofInt ((2 : Nat) : Int)) rfl ?_
      refine gi_icmp_ne d_W_leaves_86 (tgt := 93) (by decide) (by omega) (fun hb86 => ?_) (fun hb86 => ?_)
      · refine lf_aload d_W_leaves_93 rfl rfl ?_
        refine lf_iload_n d_W_leaves_95 rfl rfl ?_
        refine gi_ialoadN d_W_leaves_96 (show spt sh q (.inl (.int, N, 0, fun _ => none)) q = _ from spt_s) (by omega) ?_
        refine gi_top eb ?_
        refine lf_iload d_W_leaves_97 rfl ?_
        refine gi_ixorN (a := (TD N s kd r2 r3 dc ch b)) (b := tn) d_W_leaves_99 ?_
        first
          | exact j100 _ (by omega) (by unfold bbR; rw [if_pos (by omega)])
          | exact j100 _ hx1 (by unfold bbR; rw [if_neg (by omega)])
      · refine lf_iconst d_W_leaves_89 (v := Int32.ofInt ((2 : Nat) : Int)) rfl ?_
        refine lf_goto d_W_leaves_90 (tgt := 100) (by decide) ?_
        first
          | exact j100 _ (by omega) (by unfold bbR; rw [if_pos (by omega)])
          | exact j100 _ hx1 (by unfold bbR; rw [if_neg (by omega)])
    refine lf_room (kc1 := 0 + 1) (ks1 := 0 + 23) (by have hlc : lcN 0 = 1 := rfl; omega) (by have hlc : lcN 0 = 1 := rfl; omega) ?_
    refine lf_aload_n d_W_leaves_0 rfl rfl rfl ?_
    refine gi_len d_W_leaves_1 hs0 ?_
    refine gi_newB_int d_W_leaves_2 tA_int (m := N) (B := 23) (q := q) (by omega) (by decide) hqn ?_
    refine lf_astore d_W_leaves_4 (by decide +kernel) rfl (L2 := [(8, _), (0, _), (1, _), (2, _), (3, _), (4, _), (5, _), (6, _), (7, _)]) rfl ?_
    refine lf_iconst d_W_leaves_6 (v := Int32.ofInt ((0 : Nat) : Int)) rfl ?_
    refine lf_istore d_W_leaves_7 (by decide +kernel) (L2 := [(9, _), (8, _), (0, _), (1, _), (2, _), (3, _), (4, _), (5, _), (6, _), (7, _)]) rfl ?_
    refine w_lv_l hx hrw hrk hq (by omega) (by omega) hch k81 N 0 _ (by omega) ⟨fun a ha => izr_o ha, fun j hj => absurd hj (Nat.not_lt_zero j)⟩
  | succ d ih =>
    intro dc ch hd hch
    have hch7 : ch < 128 := Nat.lt_of_lt_of_le hch (pow2_7 (by omega))
    have hrng := lv_rng (T := TD N s kd r2 r3) (a := a) (b := b) (tn := tn) (bar := bar) (d + 1) dc ch hch
    refine gw_enter (hx_ok hx) (by decide +kernel) (Nat.le_of_ble_eq_true rfl) (L := [(0, _), (1, _), (2, _), (3, _), (4, _), (5, _), (6, _), (7, _)]) rfl ?_
    refine lf_cl (fun hcl => ?_)
    have h100 : (hp sh I J 100).isSome = true := by rw [hp_at hs0]; rfl
    have j133 : lfQ (TD N s kd r2 r3 dc ch) a b tn bar → LXf TT cl6 X mi_W_leaves (40 + (1 + (d + 1))) (1000 + 200 * (1 + (d + 1))) (hp sh I J) (pst (fun v s1 I1 J1 => v = some (.int (Int32.ofInt (lvR (TD N s kd r2 r3) a b tn bar (d + 1) dc ch))) ∧ s1 = sh ∧ I1 = I ∧ J1 = J)) (psx fun _ _ _ _ => False) (lcN d + lcN d) (23 * lcN d + 23 * lcN d) 132 [] [] (hp sh I J) := by
      intro hl
      refine lf_iconst d_W_leaves_132 (v := Int32.ofInt ((1 : Nat) : Int)) rfl ?_
      refine gw_iret d_W_leaves_133 rfl ?_
      exact ⟨by rw [lv_leaf hl] <;> rfl, rfl, rfl, rfl⟩
    have jdrop : ∀ (pc : Nat) (L : List (Nat × Value)) (I1 : mI), (∀ a, ¬ a = q → I1 a = I a) → mcL (hp sh I J) L → LXf TT cl6 X mi_W_leaves (40 + (1 + (d + 1))) (1000 + 200 * (1 + (d + 1))) (hp sh I J) (pst (fun v s1 I1 J1 => v = some (.int (Int32.ofInt (lvR (TD N s kd r2 r3) a b tn bar (d + 1) dc ch))) ∧ s1 = sh ∧ I1 = I ∧ J1 = J)) (psx fun _ _ _ _ => False) (lcN d + lcN d) (23 * lcN d + 23 * lcN d) pc L [] (hp sh I J) → LXf TT cl6 X mi_W_leaves (40 + (1 + (d + 1))) (1000 + 200 * (1 + (d + 1))) (hp sh I J) (pst (fun v s1 I1 J1 => v = some (.int (Int32.ofInt (lvR (TD N s kd r2 r3) a b tn bar (d + 1) dc ch))) ∧ s1 = sh ∧ I1 = I ∧ J1 = J)) (psx fun _ _ _ _ => False) (lcN d + lcN d) (23 * lcN d + 23 * lcN d) pc L [] (hp (spt sh q (.inl (.int, N, 0, fun _ => none))) I1 (jzr J q)) := by
      intro pc L I1 h1 h2 h3
      exact lf_drop hqn hcl h1 (fun a ha => jzr_o ha) h2 (fun v hv => by cases hv) mIn_rf h3
    have j134 : ¬ lfQ (TD N s kd r2 r3 dc ch) a b tn bar → LXf TT cl6 X mi_W_leaves (40 + (1 + (d + 1))) (1000 + 200 * (1 + (d + 1))) (hp sh I J) (pst (fun v s1 I1 J1 => v = some (.int (Int32.ofInt (lvR (TD N s kd r2 r3) a b tn bar (d + 1) dc ch))) ∧ s1 = sh ∧ I1 = I ∧ J1 = J)) (psx fun _ _ _ _ => False) (lcN d + lcN d) (23 * lcN d + 23 * lcN d) 134 [(0, .ref 100), (1, .int (Int32.ofInt ((s : Nat) : Int))), (2, .int (Int32.ofInt ((a : Nat) : Int))), (3, .int (Int32.ofInt ((b : Nat) : Int))), (4, .int (Int32.ofInt ((tn : Nat) : Int))), (5, .int (Int32.ofInt (bar))), (6, .int (Int32.ofInt ((ch : Nat) : Int))), (7, .int (Int32.ofInt ((dc : Nat) : Int)))] [] (hp sh I J) := by
      intro hl
      have rlo := lv_rng (T := TD N s kd r2 r3) (a := a) (b := b) (tn := tn) (bar := bar) d (dc + 1) ch (Nat.lt_trans hch (Nat.pow_lt_pow_right (by decide) (by omega)))
      have rhi := lv_rng (T := TD N s kd r2 r3) (a := a) (b := b) (tn := tn) (bar := bar) d (dc + 1) (ch ||| 1 * 2 ^ dc) (or_p2 hch)
      have rlo2 := rlo.2 (by omega)
      have rhi2 := rhi.2 (by omega)
      have hd7 := pow2_7 (s := d) (by omega)
      have els := lv_s (d := d) hl
      refine lf_iload d_W_leaves_134 rfl ?_
      refine lf_iload_n d_W_leaves_136 rfl rfl ?_
      refine gi_icmp_ne d_W_leaves_137 (tgt := 146) (by decide) (by omega) (fun hb137 => ?_) (fun hb137 => False.elim (by omega))
      refine lf_aload_n d_W_leaves_146 rfl rfl rfl ?_
      refine lf_iload_n d_W_leaves_147 rfl rfl ?_
      refine lf_iload_n d_W_leaves_148 rfl rfl ?_
      refine lf_iload_n d_W_leaves_149 rfl rfl ?_
      refine lf_iload d_W_leaves_150 rfl ?_
      refine lf_iload d_W_leaves_152 rfl ?_
      refine lf_iload d_W_leaves_154 rfl ?_
      refine lf_iload d_W_leaves_156 rfl ?_
      refine lf_iconst d_W_leaves_158 (v := Int32.ofInt ((1 : Nat) : Int)) rfl ?_
      refine gi_iaddN (a := dc) (b := 1) d_W_leaves_159 ?_
      refine lf_room (kc1 := lcN d + lcN d) (ks1 := 23 * lcN d + 23 * lcN d) (Nat.le_refl _) (Nat.le_refl _) ?_
      refine gw_callA s_W_leaves_160 (ih (dc + 1) ch (by omega) (Nat.lt_trans hch (Nat.pow_lt_pow_right (by decide) (by omega)))) (S := []) rfl rfl rfl rfl gcR_1 (by omega) (by decide +kernel) (Nat.le_of_ble_eq_true rfl) (fun v s1 I1 J1 w160 _ => ?_)
      obtain ⟨rfl, rfl, rfl, rfl⟩ := w160
      refine lf_istore d_W_leaves_163 (by decide +kernel) (L2 := [(10, _), (0, _), (1, _), (2, _), (3, _), (4, _), (5, _), (6, _), (7, _)]) rfl ?_
      refine lf_iload d_W_leaves_165 rfl ?_
      refine gi_if_ge d_W_leaves_167 (tgt := 174) (by decide) (by omega) (fun hb167 => ?_) (fun hb167 => ?_)
      · refine lf_aload_n d_W_leaves_174 rfl rfl rfl ?_
        refine lf_iload_n d_W_leaves_175 rfl rfl ?_
        refine lf_iload_n d_W_leaves_176 rfl rfl ?_
        refine lf_iload_n d_W_leaves_177 rfl rfl ?_
        refine lf_iload d_W_leaves_178 rfl ?_
        refine lf_iload d_W_leaves_180 rfl ?_
        refine lf_iload d_W_leaves_182 rfl ?_
        refine lf_iconst d_W_leaves_184 (v := Int32.ofInt ((1 : Nat) : Int)) rfl ?_
        refine lf_iload d_W_leaves_185 rfl ?_
        refine gi_ishlN (a := 1) (s := dc) d_W_leaves_187 (by omega) ?_
        refine gi_iorN (a := ch) (b := (1 * 2 ^ dc)) d_W_leaves_188 ?_
        refine lf_iload d_W_leaves_189 rfl ?_
        refine lf_iconst d_W_leaves_191 (v := Int32.ofInt ((1 : Nat) : Int)) rfl ?_
        refine gi_iaddN (a := dc) (b := 1) d_W_leaves_192 ?_
        refine gw_callA s_W_leaves_193 (ih (dc + 1) (ch ||| 1 * 2 ^ dc) (by omega) (or_p2 hch)) (S := []) rfl (Nat.add_zero _) (Nat.add_zero _) rfl gcR_1 (by omega) (by decide +kernel) (Nat.le_of_ble_eq_true rfl) (fun v s1 I1 J1 w193 _ => ?_)
        obtain ⟨rfl, rfl, rfl, rfl⟩ := w193
        refine lf_istore d_W_leaves_196 (by decide +kernel) (L2 := [(11, _), (10, _), (0, _), (1, _), (2, _), (3, _), (4, _), (5, _), (6, _), (7, _)]) rfl ?_
        refine lf_iload d_W_leaves_198 rfl ?_
        refine gi_if_ge d_W_leaves_200 (tgt := 208) (by decide) (by omega) (fun hb200 => ?_) (fun hb200 => ?_)
        · refine lf_iload d_W_leaves_208 rfl ?_
          refine gi_if_ge d_W_leaves_210 (tgt := 218) (by decide) (by omega) (fun hb210 => ?_) (fun hb210 => ?_)
          · refine lf_iload d_W_leaves_218 rfl ?_
            refine lf_iload d_W_leaves_220 rfl ?_
            refine gi_iadd d_W_leaves_222 ?_
            refine gw_iret d_W_leaves_223 rfl ?_
            first
              | (exfalso; omega)
              | exact ⟨by rw [els, if_pos (by omega)], rfl, rfl, rfl⟩
              | exact ⟨by rw [els, if_neg (by omega), if_pos (by omega)], rfl, rfl, rfl⟩
              | exact ⟨by rw [els, if_neg (by omega), if_neg (by omega)], rfl, rfl, rfl⟩
          · refine lf_iload d_W_leaves_213 rfl ?_
            refine lf_goto d_W_leaves_215 (tgt := 223) (by decide) ?_
            refine gw_iret d_W_leaves_223 rfl ?_
            first
              | (exfalso; omega)
              | exact ⟨by rw [els, if_pos (by omega)], rfl, rfl, rfl⟩
              | exact ⟨by rw [els, if_neg (by omega), if_pos (by omega)], rfl, rfl, rfl⟩
              | exact ⟨by rw [els, if_neg (by omega), if_neg (by omega)], rfl, rfl, rfl⟩
        · refine lf_iload d_W_leaves_203 rfl ?_
          refine lf_goto d_W_leaves_205 (tgt := 223) (by decide) ?_
          refine gw_iret d_W_leaves_223 rfl ?_
          first
            | (exfalso; omega)
            | exact ⟨by rw [els, if_pos (by omega)], rfl, rfl, rfl⟩
            | exact ⟨by rw [els, if_neg (by omega), if_pos (by omega)], rfl, rfl, rfl⟩
            | exact ⟨by rw [els, if_neg (by omega), if_neg (by omega)], rfl, rfl, rfl⟩
      · refine lf_iconst d_W_leaves_170 (v := Int32.ofInt ((0 : Nat) : Int)) rfl ?_
        refine lf_goto d_W_leaves_171 (tgt := 196) (by decide) ?_
        refine lf_istore d_W_leaves_196 (by decide +kernel) (L2 := [(11, _), (10, _), (0, _), (1, _), (2, _), (3, _), (4, _), (5, _), (6, _), (7, _)]) rfl ?_
        refine lf_iload d_W_leaves_198 rfl ?_
        refine gi_if_ge d_W_leaves_200 (tgt := 208) (by decide) (by omega) (fun hb200 => ?_) (fun hb200 => ?_)
        · refine lf_iload d_W_leaves_208 rfl ?_
          refine gi_if_ge d_W_leaves_210 (tgt := 218) (by decide) (by omega) (fun hb210 => ?_) (fun hb210 => ?_)
          · refine lf_iload d_W_leaves_218 rfl ?_
            refine lf_iload d_W_leaves_220 rfl ?_
            refine gi_iadd d_W_leaves_222 ?_
            refine gw_iret d_W_leaves_223 rfl ?_
            first
              | (exfalso; omega)
              | exact ⟨by rw [els, if_pos (by omega)], rfl, rfl, rfl⟩
              | exact ⟨by rw [els, if_neg (by omega), if_pos (by omega)], rfl, rfl, rfl⟩
              | exact ⟨by rw [els, if_neg (by omega), if_neg (by omega)], rfl, rfl, rfl⟩
          · refine lf_iload d_W_leaves_213 rfl ?_
            refine lf_goto d_W_leaves_215 (tgt := 223) (by decide) ?_
            refine gw_iret d_W_leaves_223 rfl ?_
            first
              | (exfalso; omega)
              | exact ⟨by rw [els, if_pos (by omega)], rfl, rfl, rfl⟩
              | exact ⟨by rw [els, if_neg (by omega), if_pos (by omega)], rfl, rfl, rfl⟩
              | exact ⟨by rw [els, if_neg (by omega), if_neg (by omega)], rfl, rfl, rfl⟩
        · refine lf_iload d_W_leaves_203 rfl ?_
          refine lf_goto d_W_leaves_205 (tgt := 223) (by decide) ?_
          refine gw_iret d_W_leaves_223 rfl ?_
          first
            | (exfalso; omega)
            | exact ⟨by rw [els, if_pos (by omega)], rfl, rfl, rfl⟩
            | exact ⟨by rw [els, if_neg (by omega), if_pos (by omega)], rfl, rfl, rfl⟩
            | exact ⟨by rw [els, if_neg (by omega), if_neg (by omega)], rfl, rfl, rfl⟩
    have k81 : ∀ I1 : mI, (∀ a, ¬ a = q → I1 a = I a) ∧ (∀ j, j < N → I1 q j = ((TD N s kd r2 r3 dc ch j : Nat) : Int)) → LXf TT cl6 X mi_W_leaves (40 + (1 + (d + 1))) (1000 + 200 * (1 + (d + 1))) (hp sh I J) (pst (fun v s1 I1 J1 => v = some (.int (Int32.ofInt (lvR (TD N s kd r2 r3) a b tn bar (d + 1) dc ch))) ∧ s1 = sh ∧ I1 = I ∧ J1 = J)) (psx fun _ _ _ _ => False) (lcN d + lcN d) (23 * lcN d + 23 * lcN d) 81 [(8, .ref q), (0, .ref 100), (1, .int (Int32.ofInt ((s : Nat) : Int))), (2, .int (Int32.ofInt ((a : Nat) : Int))), (3, .int (Int32.ofInt ((b : Nat) : Int))), (4, .int (Int32.ofInt ((tn : Nat) : Int))), (5, .int (Int32.ofInt (bar))), (6, .int (Int32.ofInt ((ch : Nat) : Int))), (7, .int (Int32.ofInt ((dc : Nat) : Int)))] [] (hp (spt sh q (.inl (.int, N, 0, fun _ => none))) I1 (jzr J q)) := by
      intro I1 hb
      have ea := hb.2 a (by omega)
      have eb := hb.2 b (by omega)
      have la := hle dc ch N a (by omega) (by omega)
      have lb9 := hle dc ch N b (by omega) (by omega)
      have hx1 : TD N s kd r2 r3 dc ch b ^^^ tn < 4 := Nat.xor_lt_two_pow (n := 2) (by omega) (by omega)
      have ebar : 0 ≤ bar → I1 q bar.toNat = ((TD N s kd r2 r3 dc ch bar.toNat : Nat) : Int) := fun z => hb.2 _ (by omega)
      have lbar : 0 ≤ bar → TD N s kd r2 r3 dc ch bar.toNat ≤ 2 := fun z => hle dc ch N _ (by omega) (by omega)
      have j100 : ∀ bb : Nat, bb < 4 → bb = bbR (TD N s kd r2 r3 dc ch) b tn → LXf TT cl6 X mi_W_leaves (40 + (1 + (d + 1))) (1000 + 200 * (1 + (d + 1))) (hp sh I J) (pst (fun v s1 I1 J1 => v = some (.int (Int32.ofInt (lvR (TD N s kd r2 r3) a b tn bar (d + 1) dc ch))) ∧ s1 = sh ∧ I1 = I ∧ J1 = J)) (psx fun _ _ _ _ => False) (lcN d + lcN d) (23 * lcN d + 23 * lcN d) 100 [(8, .ref q), (0, .ref 100), (1, .int (Int32.ofInt ((s : Nat) : Int))), (2, .int (Int32.ofInt ((a : Nat) : Int))), (3, .int (Int32.ofInt ((b : Nat) : Int))), (4, .int (Int32.ofInt ((tn : Nat) : Int))), (5, .int (Int32.ofInt (bar))), (6, .int (Int32.ofInt ((ch : Nat) : Int))), (7, .int (Int32.ofInt ((dc : Nat) : Int)))] [.int (Int32.ofInt ((bb : Nat) : Int))] (hp (spt sh q (.inl (.int, N, 0, fun _ => none))) I1 (jzr J q)) := by
        intro bb hbb4 hbb
        refine lf_istore d_W_leaves_100 (by decide +kernel) (L2 := [(9, _), (8, _), (0, _), (1, _), (2, _), (3, _), (4, _), (5, _), (6, _), (7, _)]) rfl ?_
        refine lf_iload d_W_leaves_102 rfl ?_
        refine gi_if_lt d_W_leaves_104 (tgt := 115) (by decide) (by omega) (fun hb104 => ?_) (fun hb104 => ?_)
        · refine lf_aload d_W_leaves_115 rfl rfl ?_
          refine lf_iload_n d_W_leaves_117 rfl rfl ?_
          refine gi_ialoadN d_W_leaves_118 (show spt sh q (.inl (.int, N, 0, fun _ => none)) q = _ from spt_s) (by omega) ?_
          refine gi_top ea ?_
          refine lf_iconst d_W_leaves_119 (v := Int32.ofInt ((2 : Nat) : Int)) rfl ?_
          refine gi_icmp_eq d_W_leaves_120 (tgt := 134) (by decide) (by omega) (fun hb120 => ?_) (fun hb120 => ?_)
          · refine lf_sub [2, 3, 4, 5, 6, 7, 8, 9] rfl ?_
            refine jdrop _ _ _ hb.1 (mcL_c h100 (mcL_c trivial (mcL_c trivial (mcL_c trivial (mcL_c trivial (mcL_c trivial (mcL_c trivial (mcL_c trivial mcL_n)))))))) (j134 (fun hq9 => ?_))
            rcases hq9 with ⟨z1, z2⟩ | ⟨z1, z2⟩ <;> omega
          · refine lf_aload d_W_leaves_123 rfl rfl ?_
            refine lf_iload_n d_W_leaves_125 rfl rfl ?_
            refine gi_ialoadN d_W_leaves_126 (show spt sh q (.inl (.int, N, 0, fun _ => none)) q = _ from spt_s) (by omega) ?_
            refine gi_top ea ?_
            refine lf_iload d_W_leaves_127 rfl ?_
            refine gi_icmp_ne d_W_leaves_129 (tgt := 134) (by decide) (by omega) (fun hb129 => ?_) (fun hb129 => ?_)
            · refine lf_sub [2, 3, 4, 5, 6, 7, 8, 9] rfl ?_
              refine jdrop _ _ _ hb.1 (mcL_c h100 (mcL_c trivial (mcL_c trivial (mcL_c trivial (mcL_c trivial (mcL_c trivial (mcL_c trivial (mcL_c trivial mcL_n)))))))) (j134 (fun hq9 => ?_))
              rcases hq9 with ⟨z1, z2⟩ | ⟨z1, z2⟩ <;> omega
            · refine lf_sub [] rfl ?_
              refine jdrop _ _ _ hb.1 (fun z hz => by cases hz) (j133 ?_)
              first
                | exact Or.inl ⟨by omega, by omega⟩
                | exact Or.inr ⟨by omega, by omega⟩
        · refine lf_aload d_W_leaves_107 rfl rfl ?_
          refine lf_iload d_W_leaves_109 rfl ?_
          refine gi_iaload d_W_leaves_111 (show spt sh q (.inl (.int, N, 0, fun _ => none)) q = _ from spt_s) (by omega) ?_
          refine gi_top (ebar (by omega)) ?_
          refine gi_if_eq d_W_leaves_112 (tgt := 132) (by decide) (by omega) (fun hb112 => ?_) (fun hb112 => ?_)
          · refine lf_sub [] rfl ?_
            refine jdrop _ _ _ hb.1 (fun z hz => by cases hz) (j133 ?_)
            first
              | exact Or.inl ⟨by omega, by omega⟩
              | exact Or.inr ⟨by omega, by omega⟩
          · refine lf_aload d_W_leaves_115 rfl rfl ?_
            refine lf_iload_n d_W_leaves_117 rfl rfl ?_
            refine gi_ialoadN d_W_leaves_118 (show spt sh q (.inl (.int, N, 0, fun _ => none)) q = _ from spt_s) (by omega) ?_
            refine gi_top ea ?_
            refine lf_iconst d_W_leaves_119 (v := Int32.ofInt ((2 : Nat) : Int)) rfl ?_
            refine gi_icmp_eq d_W_leaves_120 (tgt := 134) (by decide) (by omega) (fun hb120 => ?_) (fun hb120 => ?_)
            · refine lf_sub [2, 3, 4, 5, 6, 7, 8, 9] rfl ?_
              refine jdrop _ _ _ hb.1 (mcL_c h100 (mcL_c trivial (mcL_c trivial (mcL_c trivial (mcL_c trivial (mcL_c trivial (mcL_c trivial (mcL_c trivial mcL_n)))))))) (j134 (fun hq9 => ?_))
              rcases hq9 with ⟨z1, z2⟩ | ⟨z1, z2⟩ <;> omega
            · refine lf_aload d_W_leaves_123 rfl rfl ?_
              refine lf_iload_n d_W_leaves_125 rfl rfl ?_
              refine gi_ialoadN d_W_leaves_126 (show spt sh q (.inl (.int, N, 0, fun _ => none)) q = _ from spt_s) (by omega) ?_
              refine gi_top ea ?_
              refine lf_iload d_W_leaves_127 rfl ?_
              refine gi_icmp_ne d_W_leaves_129 (tgt := 134) (by decide) (by omega) (fun hb129 => ?_) (fun hb129 => ?_)
              · refine lf_sub [2, 3, 4, 5, 6, 7, 8, 9] rfl ?_
                refine jdrop _ _ _ hb.1 (mcL_c h100 (mcL_c trivial (mcL_c trivial (mcL_c trivial (mcL_c trivial (mcL_c trivial (mcL_c trivial (mcL_c trivial mcL_n)))))))) (j134 (fun hq9 => ?_))
                rcases hq9 with ⟨z1, z2⟩ | ⟨z1, z2⟩ <;> omega
              · refine lf_sub [] rfl ?_
                refine jdrop _ _ _ hb.1 (fun z hz => by cases hz) (j133 ?_)
                first
                  | exact Or.inl ⟨by omega, by omega⟩
                  | exact Or.inr ⟨by omega, by omega⟩
      refine lf_aload d_W_leaves_81 rfl rfl ?_
      refine lf_iload_n d_W_leaves_83 rfl rfl ?_
      refine gi_ialoadN d_W_leaves_84 (show spt sh q (.inl (.int, N, 0, fun _ => none)) q = _ from spt_s) (by omega) ?_
      refine gi_top eb ?_
      refine lf_iconst d_W_leaves_85 (v := Int32.ofInt ((2 : Nat) : Int)) rfl ?_
      refine gi_icmp_ne d_W_leaves_86 (tgt := 93) (by decide) (by omega) (fun hb86 => ?_) (fun hb86 => ?_)
      · refine lf_aload d_W_leaves_93 rfl rfl ?_
        refine lf_iload_n d_W_leaves_95 rfl rfl ?_
        refine gi_ialoadN d_W_leaves_96 (show spt sh q (.inl (.int, N, 0, fun _ => none)) q = _ from spt_s) (by omega) ?_
        refine gi_top eb ?_
        refine lf_iload d_W_leaves_97 rfl ?_
        refine gi_ixorN (a := (TD N s kd r2 r3 dc ch b)) (b := tn) d_W_leaves_99 ?_
        first
          | exact j100 _ (by omega) (by unfold bbR; rw [if_pos (by omega)])
          | exact j100 _ hx1 (by unfold bbR; rw [if_neg (by omega)])
      · refine lf_iconst d_W_leaves_89 (v := Int32.ofInt ((2 : Nat) : Int)) rfl ?_
        refine lf_goto d_W_leaves_90 (tgt := 100) (by decide) ?_
        first
          | exact j100 _ (by omega) (by unfold bbR; rw [if_pos (by omega)])
          | exact j100 _ hx1 (by unfold bbR; rw [if_neg (by omega)])
    refine lf_room (kc1 := (lcN d + lcN d) + 1) (ks1 := (23 * lcN d + 23 * lcN d) + 23) (by have hlc : lcN (d + 1) = lcN d + lcN d + 1 := rfl; omega) (by have hlc : lcN (d + 1) = lcN d + lcN d + 1 := rfl; omega) ?_
    refine lf_aload_n d_W_leaves_0 rfl rfl rfl ?_
    refine gi_len d_W_leaves_1 hs0 ?_
    refine gi_newB_int d_W_leaves_2 tA_int (m := N) (B := 23) (q := q) (by omega) (by decide) hqn ?_
    refine lf_astore d_W_leaves_4 (by decide +kernel) rfl (L2 := [(8, _), (0, _), (1, _), (2, _), (3, _), (4, _), (5, _), (6, _), (7, _)]) rfl ?_
    refine lf_iconst d_W_leaves_6 (v := Int32.ofInt ((0 : Nat) : Int)) rfl ?_
    refine lf_istore d_W_leaves_7 (by decide +kernel) (L2 := [(9, _), (8, _), (0, _), (1, _), (2, _), (3, _), (4, _), (5, _), (6, _), (7, _)]) rfl ?_
    refine w_lv_l hx hrw hrk hq (by omega) (by omega) hch k81 N 0 _ (by omega) ⟨fun a ha => izr_o ha, fun j hj => absurd hj (Nat.not_lt_zero j)⟩
end LW4
