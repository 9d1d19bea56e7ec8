section TM1
theorem src_chk : ∀ d, d < 7 → ∀ i, i < 2 ^ d → ∀ j, j < 7 → lb (oS j ((2 ^ d + i) / 64)) ((2 ^ d + i) % 64) = decide (srD d (mir d i) j = 1) ∧ lb (zS j ((2 ^ d + i) / 64)) ((2 ^ d + i) % 64) = decide (srD d (mir d i) j = 0) := by decide +kernel
theorem hs_chk : ∀ s, s < 8 → ∀ c, c < 2 ^ s → lb (evr s) (mir s c % 64) = true ∧ ∀ j, j < s → lb (hS s j (mir s c / 64)) (mir s c % 64) = c.testBit j := by decide +kernel
theorem ev_chk : ∀ s, s < 7 → ∀ i, i < 64 → 2 ^ s ≤ i → lb (evr s) i = false := by decide +kernel
theorem mir_ch : ∀ d, d < 7 → ∀ i, i < 2 ^ d → mir (d + 1) (2 * i) = mir d i ∧ mir (d + 1) (2 * i + 1) = mir d i ||| 1 * 2 ^ d := by decide +kernel
theorem mir_0 : mir 0 0 = 0 := by decide +kernel
theorem g_told {kd : Int} (h : KDq kd) {x y : Nat} (hx : x ≤ 2) (hy : y ≤ 2) {oa za ob zb : Int64} {i : Nat} (h1 : lb oa i = decide (x = 1)) (h2 : lb za i = decide (x = 0)) (h3 : lb ob i = decide (y = 1)) (h4 : lb zb i = decide (y = 0)) : lb (gOne kd oa za ob zb) i = decide (tldN kd x y = 1) ∧ lb (gZero kd oa za ob zb) i = decide (tldN kd x y = 0) := by
  have hxy : (x = 0 ∨ x = 1 ∨ x = 2) ∧ (y = 0 ∨ y = 1 ∨ y = 2) := by omega
  obtain ⟨hx, hy⟩ := hxy
  rcases h with rfl | rfl | rfl | rfl | rfl | rfl | rfl
  · show lb (oa &&& ob) i = _ ∧ lb (za ||| zb) i = _
    simp only [lb_and, lb_or, h1, h2, h3, h4]
    rcases hx with rfl | rfl | rfl <;> rcases hy with rfl | rfl | rfl <;> decide
  · show lb (za ||| zb) i = _ ∧ lb (oa &&& ob) i = _
    simp only [lb_and, lb_or, h1, h2, h3, h4]
    rcases hx with rfl | rfl | rfl <;> rcases hy with rfl | rfl | rfl <;> decide
  · show lb (oa ||| ob) i = _ ∧ lb (za &&& zb) i = _
    simp only [lb_and, lb_or, h1, h2, h3, h4]
    rcases hx with rfl | rfl | rfl <;> rcases hy with rfl | rfl | rfl <;> decide
  · show lb (za &&& zb) i = _ ∧ lb (oa ||| ob) i = _
    simp only [lb_and, lb_or, h1, h2, h3, h4]
    rcases hx with rfl | rfl | rfl <;> rcases hy with rfl | rfl | rfl <;> decide
  · show lb (oa &&& zb ||| za &&& ob) i = _ ∧ lb (oa &&& ob ||| za &&& zb) i = _
    simp only [lb_and, lb_or, h1, h2, h3, h4]
    rcases hx with rfl | rfl | rfl <;> rcases hy with rfl | rfl | rfl <;> decide
  · show lb za i = _ ∧ lb oa i = _
    simp only [lb_and, lb_or, h1, h2, h3, h4]
    rcases hx with rfl | rfl | rfl <;> rcases hy with rfl | rfl | rfl <;> decide
  · show lb oa i = _ ∧ lb za i = _
    simp only [lb_and, lb_or, h1, h2, h3, h4]
    rcases hx with rfl | rfl | rfl <;> rcases hy with rfl | rfl | rfl <;> decide
theorem tld_mono {kd : Int} (h : KDq kd) : ∀ x, x < 3 → ∀ y, y < 3 → ∀ x1, x1 < 3 → ∀ y1, y1 < 3 → (x = 2 ∨ x1 = x) ∧ (y = 2 ∨ y1 = y) → tldN kd x y = 2 ∨ tldN kd x1 y1 = tldN kd x y := by
  intro x hx y hy x1 hx1 y1 hy1
  have e1 : (x + 3 * y + 9 * x1 + 27 * y1) % 3 = x := by omega
  have e2 : (x + 3 * y + 9 * x1 + 27 * y1) / 3 % 3 = y := by omega
  have e3 : (x + 3 * y + 9 * x1 + 27 * y1) / 9 % 3 = x1 := by omega
  have e4 : (x + 3 * y + 9 * x1 + 27 * y1) / 27 = y1 := by omega
  have key : ∀ q, q < 81 → (q % 3 = 2 ∨ q / 9 % 3 = q % 3) ∧ (q / 3 % 3 = 2 ∨ q / 27 = q / 3 % 3) → tldN kd (q % 3) (q / 3 % 3) = 2 ∨ tldN kd (q / 9 % 3) (q / 27) = tldN kd (q % 3) (q / 3 % 3) := by
    rcases h with rfl | rfl | rfl | rfl | rfl | rfl | rfl <;> decide +kernel
  have g := key (x + 3 * y + 9 * x1 + 27 * y1) (by omega)
  rw [e1, e2, e3, e4] at g
  exact g
theorem tld_bn {kd : Int} (h : KDq kd) (x y : Bool) : tldN kd (bn x) (bn y) = bn (gB kd x y) := by
  rcases h with rfl | rfl | rfl | rfl | rfl | rfl | rfl <;> cases x <;> cases y <;> decide
theorem bvl_cg {s : Nat} {kd kd1 : Nat → Int} {pa pb : Nat → Nat} {src src1 : Nat → Bool} (h2 : ∀ j, j < s → src j = src1 j) : ∀ n, (∀ j, s ≤ j → j < n → kd j = kd1 j) → ∀ j, bvl s kd pa pb src n j = bvl s kd1 pa pb src1 n j := by
  intro n
  induction n with
  | zero => intro _ j; rfl
  | succ n ih =>
    intro h1 j
    have ih := ih (fun j a b => h1 j a (by omega))
    show (if j = n then (if n < s then src n else gB (kd n) (bvl s kd pa pb src n (pa n)) (bvl s kd pa pb src n (pb n))) else bvl s kd pa pb src n j) = (if j = n then (if n < s then src1 n else gB (kd1 n) (bvl s kd1 pa pb src1 n (pa n)) (bvl s kd1 pa pb src1 n (pb n))) else bvl s kd1 pa pb src1 n j)
    rw [ih j, ih (pa n), ih (pb n)]
    by_cases q : n < s
    · rw [if_pos q, if_pos q, h2 n q]
    · rw [if_neg q, if_neg q, h1 n (by omega) (by omega)]
/-- what the tree stands on -/
def TH (I : mI) (J : mJ) (N ni s w : Nat) (kd : Nat → Int) (ow r2 r3 : Nat → Nat) (bar : Int) : Prop :=
  RKq N ni s kd ow r2 r3 ∧ (∀ j, j < N → I 3 j = kd j) ∧ (∀ j, j < N → REC I s w r2 (pbF kd r2 r3) J j) ∧ ((s ≤ 6 ∧ w = 1) ∨ (s = 7 ∧ w = 2)) ∧ (bar = -1 ∨ (0 ≤ bar ∧ bar < (N : Int))) ∧
  (∀ c, c < 2 ^ s → kbit J (mir s c) = (decide (bar < 0) || vlw N s kd r2 r3 c bar.toNat)) ∧ (∀ u, u < w → J 30 u = if bar < 0 then 0 else J 27 (bar.toNat * w + u)) ∧ (∀ i, 2 ^ s ≤ i → i < 64 * w → kbit J i = false)
section
variable {I : mI} {J : mJ} {N ni s w : Nat} {kd : Nat → Int} {ow r2 r3 : Nat → Nat} {bar : Int}
theorem TD_g2 {dc ch j : Nat} (h : s ≤ j) (h2 : j < N) (ha : r2 j < j) (hb : r3 j < j) : TD N s kd r2 r3 dc ch j = tldN (kd j) (TD N s kd r2 r3 dc ch (r2 j)) (TD N s kd r2 r3 dc ch (pbF kd r2 r3 j)) := tvl_gt h h2 ha (pb_lt ha hb)
theorem vlw_g2 {c j : Nat} (h : s ≤ j) (h2 : j < N) (ha : r2 j < j) (hb : r3 j < j) : vlw N s kd r2 r3 c j = gB (kd j) (vlw N s kd r2 r3 c (r2 j)) (vlw N s kd r2 r3 c (pbF kd r2 r3 j)) := bvl_gt h h2 ha (pb_lt ha hb)
theorem w64 {d i : Nat} (hsw : (s ≤ 6 ∧ w = 1) ∨ (s = 7 ∧ w = 2)) (hd : d < s) (hi : i < 2 ^ d) : (2 ^ d + i) / 64 < w := by
  have h1 := s64 hsw
  have h2 : 2 ^ (d + 1) ≤ 2 ^ s := Nat.pow_le_pow_right (by decide) hd
  rw [Nat.pow_succ] at h2
  omega
theorem told_words (h : TH I J N ni s w kd ow r2 r3 bar) {d i : Nat} (hd : d < s) (hi : i < 2 ^ d) : ∀ m k, k < m → k < N → lb (J 28 (k * w + (2 ^ d + i) / 64)) ((2 ^ d + i) % 64) = decide (TD N s kd r2 r3 d (mir d i) k = 1) ∧ lb (J 27 (k * w + (2 ^ d + i) / 64)) ((2 ^ d + i) % 64) = decide (TD N s kd r2 r3 d (mir d i) k = 0) := by
  obtain ⟨hrk, hk3, hrec, hsw, -⟩ := h
  have hle := TD_le hrk d (mir d i)
  obtain ⟨ki, kc9, kg, hni1, hnis, hsN, hN23, hs7⟩ := hrk
  have hu := w64 hsw hd hi
  intro m
  induction m with
  | zero => intro k hk; omega
  | succ m ih =>
    intro k hk hkN
    have hr := hrec k hkN
    rcases Nat.lt_or_ge k s with q | q
    · obtain ⟨e1, e2, e3⟩ := hr.1 q _ hu
      rw [e2, e3, TD_s q hsN]
      exact src_chk d (by omega) i hi k (by omega)
    · obtain ⟨e1, e2, e3⟩ := hr.2 q _ hu
      obtain ⟨g4, g5, g6, g7, -⟩ := kg k q hkN
      have hp := pb_lt (kd := kd) g6 g7
      have i1 := ih (r2 k) (by omega) (by omega)
      have i2 := ih (pbF kd r2 r3 k) (by omega) (by omega)
      rw [e2, e3, hk3 k hkN, TD_g2 q hkN g6 g7]
      exact g_told g4 (hle N _ (by omega) (by omega)) (hle N _ (by omega) (by omega)) i1.1 i1.2 i2.1 i2.2
theorem hbit_vl (h : TH I J N ni s w kd ow r2 r3 bar) {k c : Nat} (hk : k < N) (hc : c < 2 ^ s) : hbit J w s k c = vlw N s kd r2 r3 c k := by
  obtain ⟨hrk, hk3, hrec, hsw, -⟩ := h
  obtain ⟨ki, kc9, kg, hni1, hnis, hsN, hN23, hs7⟩ := hrk
  have hW := HW_of (I := I) (J := J) (s := s) (n := N) (w := w) (pa := r2) (pb := pbF kd r2 r3) (fun j h1 h2 => ⟨by rw [hk3 j h2]; exact (kg j h1 h2).1, (kg j h1 h2).2.2.1, pb_lt (kg j h1 h2).2.2.1 (kg j h1 h2).2.2.2.1⟩) hrec
  have hm := mir_lt (s := s) (c := c) (by omega)
  have hu : mir s c / 64 < w := by
    have := s64 hsw
    omega
  obtain ⟨c1, c2⟩ := hs_chk s (by omega) c hc
  unfold hbit vlw
  rw [hW k hk _ hu _ (Nat.mod_lt _ (by decide)), c1, Bool.true_and]
  exact bvl_cg c2 N (fun j _ b => hk3 j b) k
theorem TD_full (hrk : RKq N ni s kd ow r2 r3) {c : Nat} : ∀ m k, k < m → k < N → TD N s kd r2 r3 s c k = bn (vlw N s kd r2 r3 c k) := by
  obtain ⟨ki, kc9, kg, hni1, hnis, hsN, hN23, hs7⟩ := hrk
  intro m
  induction m with
  | zero => intro k hk; omega
  | succ m ih =>
    intro k hk hkN
    rcases Nat.lt_or_ge k s with q | q
    · rw [TD_s q hsN, vlw_s q hsN]
      unfold srD
      rw [if_pos q]
      exact tb_bn c k
    · obtain ⟨g4, g5, g6, g7, -⟩ := kg k q hkN
      rw [TD_g q hkN g6 g7, vlw_g q hkN g6 g7, ih (r2 k) (by omega) (by omega), ih (r3 k) (by omega) (by omega)]
      exact tld_bn g4 _ _
theorem TD_mono (hrk : RKq N ni s kd ow r2 r3) {d c c1 : Nat} (hd : d < s) (hc : ∀ j, j < d → c1 / 2 ^ j &&& 1 = c / 2 ^ j &&& 1) : ∀ m k, k < m → k < N → ¬ TD N s kd r2 r3 d c k = 2 → TD N s kd r2 r3 (d + 1) c1 k = TD N s kd r2 r3 d c k := by
  have hle := TD_le hrk d c
  have hle1 := TD_le hrk (d + 1) c1
  obtain ⟨ki, kc9, kg, hni1, hnis, hsN, hN23, hs7⟩ := hrk
  intro m
  induction m with
  | zero => intro k hk; omega
  | succ m ih =>
    intro k hk hkN h2
    rcases Nat.lt_or_ge k s with q | q
    · rw [TD_s q hsN] at h2 ⊢
      rw [TD_s q hsN]
      unfold srD at *
      by_cases z : k < d
      · rw [if_pos z, if_pos (by omega)]
        exact hc k z
      · rw [if_neg z] at h2
        exact absurd rfl h2
    · obtain ⟨g4, g5, g6, g7, -⟩ := kg k q hkN
      rw [TD_g q hkN g6 g7] at h2 ⊢
      rw [TD_g q hkN g6 g7]
      have b1 := hle N (r2 k) (by omega) (by omega)
      have b2 := hle N (r3 k) (by omega) (by omega)
      have b3 := hle1 N (r2 k) (by omega) (by omega)
      have b4 := hle1 N (r3 k) (by omega) (by omega)
      have j2 := ih (r2 k) (by omega) (by omega)
      have j3 := ih (r3 k) (by omega) (by omega)
      exact (tld_mono g4 _ (by omega) _ (by omega) _ (by omega) _ (by omega) ⟨(Classical.em _).imp id j2, (Classical.em _).imp id j3⟩).resolve_left h2
theorem lf_mono {T T1 : Nat → Nat} {a b tn : Nat} (hm : ∀ k, k < N → ¬ T k = 2 → T1 k = T k) (ha : a < N) (hb : b < N) (hbar : bar = -1 ∨ (0 ≤ bar ∧ bar < (N : Int))) (h : lfQ T a b tn bar) : lfQ T1 a b tn bar := by
  rcases h with ⟨h1, h2⟩ | ⟨h1, h2⟩
  · exact Or.inl ⟨h1, (hm _ (by omega) (by omega)).trans h2⟩
  · have ea := hm a ha h1
    have hb2 : ¬ T b = 2 := fun e => h1 (by rw [h2]; unfold bbR; rw [if_pos e])
    have eb := hm b hb hb2
    refine Or.inr ⟨by rw [ea]; exact h1, ?_⟩
    rw [ea, h2]
    unfold bbR
    rw [eb]
theorem ch_bits {c d : Nat} : ∀ j, j < d → (c ||| 1 * 2 ^ d) / 2 ^ j &&& 1 = c / 2 ^ j &&& 1 := by
  intro j hj
  rw [tb_bn, tb_bn, Nat.testBit_or, Nat.one_mul, Nat.testBit_two_pow, decide_eq_false (by omega), Bool.or_false]
theorem inv_tn {tn : Nat} (h : tn < 2) : (tn = 0 ∧ decide (tn = 1) = false) ∨ (tn = 1 ∧ decide (tn = 1) = true) := by
  have : tn = 0 ∨ tn = 1 := by omega
  rcases this with rfl | rfl
  · exact Or.inl ⟨rfl, rfl⟩
  · exact Or.inr ⟨rfl, rfl⟩
theorem node_q {T : Nat → Nat} {a b tn : Nat} {r : Bool} (htn : tn < 2) (ha : T a ≤ 2) (hb : T b ≤ 2) (hr : r = true ↔ (0 ≤ bar ∧ T bar.toNat = 0)) : (((decide (T a = 1) && decide (T b = (if tn = 1 then 0 else 1))) || (decide (T a = 0) && decide (T b = (if tn = 1 then 1 else 0)))) || r) = true ↔ lfQ T a b tn bar := by
  unfold lfQ bbR
  rw [← hr]
  have ht : tn = 0 ∨ tn = 1 := by omega
  have hxy : (T a = 0 ∨ T a = 1 ∨ T a = 2) ∧ (T b = 0 ∨ T b = 1 ∨ T b = 2) := by omega
  obtain ⟨hx, hy⟩ := hxy
  cases r <;> rcases ht with rfl | rfl <;> rcases hx with e | e | e <;> rcases hy with e1 | e1 | e1 <;> rw [e, e1] <;> decide
theorem node_lf (h : TH I J N ni s w kd ow r2 r3 bar) {d i a b tn : Nat} (hd : d < s) (hi : i < 2 ^ d) (ha : a < N) (hb : b < N) (htn : tn < 2) : lfb J w a b (decide (tn = 1)) (2 ^ d + i) = true ↔ lfQ (TD N s kd r2 r3 d (mir d i)) a b tn bar := by
  have tw := told_words h hd hi N
  obtain ⟨hrk, hk3, hrec, hsw, hbar, hkb, h30, hkz⟩ := h
  have hu := w64 hsw hd hi
  have hle := TD_le hrk d (mir d i)
  refine Iff.trans ?_ (node_q (T := TD N s kd r2 r3 d (mir d i)) (r := lb (J 30 ((2 ^ d + i) / 64)) ((2 ^ d + i) % 64)) htn (hle N a ha ha) (hle N b hb hb) ?_)
  · unfold lfb
    rcases inv_tn htn with ⟨e, e2⟩ | ⟨e, e2⟩
    · rw [e2, (tw a ha ha).1, (tw a ha ha).2]
      subst e
      show ((_ && lb (J 28 (b * w + (2 ^ d + i) / 64)) _ || _ && lb (J 27 (b * w + (2 ^ d + i) / 64)) _) || _) = true ↔ _
      rw [(tw b hb hb).1, (tw b hb hb).2]
      exact Iff.rfl
    · rw [e2, (tw a ha ha).1, (tw a ha ha).2]
      subst e
      show ((_ && lb (J 27 (b * w + (2 ^ d + i) / 64)) _ || _ && lb (J 28 (b * w + (2 ^ d + i) / 64)) _) || _) = true ↔ _
      rw [(tw b hb hb).1, (tw b hb hb).2]
      exact Iff.rfl
  · rw [h30 _ hu]
    rcases hbar with e | ⟨e1, e2⟩
    · rw [if_pos (by omega), lb_0]
      exact ⟨fun q => (Bool.false_ne_true q).elim, fun q => by omega⟩
    · rw [if_neg (by omega), (tw bar.toNat (by omega) (by omega)).2]
      exact ⟨fun q => ⟨e1, of_decide_eq_true q⟩, fun q => decide_eq_true q.2⟩
theorem leaf_lf (h : TH I J N ni s w kd ow r2 r3 bar) {i a b tn : Nat} (hi : i < 2 ^ s) (ha : a < N) (hb : b < N) (htn : tn < 2) : dbit J w a b (decide (tn = 1)) i = false ↔ lfQ (TD N s kd r2 r3 s (mir s i)) a b tn bar := by
  have hv := fun k hk => hbit_vl h (k := k) (c := mir s i) hk
  obtain ⟨hrk, hk3, hrec, hsw, hbar, hkb, h30, hkz⟩ := h
  have hs7 : s ≤ 7 := hrk.2.2.2.2.2.2.2
  have hm := mir_lt (s := s) (c := i) (by omega)
  have hmm := mir_mir s (by omega) i hi
  have va := hv a ha hm
  have vb := hv b hb hm
  have tf := TD_full hrk (c := mir s i) N
  have hk := hkb (mir s i) hm
  rw [hmm] at hk
  unfold hbit at va vb
  rw [hmm] at va vb
  unfold dbit lfQ bbR
  rw [va, vb, hk, tf a ha ha, tf b hb hb]
  have ht : tn = 0 ∨ tn = 1 := by omega
  rcases hbar with e | ⟨e1, e2⟩
  · rw [decide_eq_true (show bar < 0 by omega)]
    rcases ht with rfl | rfl <;> cases vlw N s kd r2 r3 (mir s i) a <;> cases vlw N s kd r2 r3 (mir s i) b <;> simp [bn, e]
  · rw [decide_eq_false (show ¬ bar < 0 by omega), tf bar.toNat (by omega) (by omega)]
    rcases ht with rfl | rfl <;> cases vlw N s kd r2 r3 (mir s i) a <;> cases vlw N s kd r2 r3 (mir s i) b <;> cases vlw N s kd r2 r3 (mir s i) bar.toNat <;> simp [bn, e1]
/-- the nodes below a node that are no leaves -/
def O9 (p : Nat → Bool) : Nat → Nat → Nat → Nat
  | 0, _, _ => 0
  | e + 1, d, i => (if p (2 ^ d + i) then 1 else 0) + O9 p e (d + 1) (2 * i) + O9 p e (d + 1) (2 * i + 1)
def lsu (p : Nat → Bool) (d i : Nat) : Nat → Nat
  | 0 => 0
  | t + 1 => lsu p d i t + cb (fun j => p (2 ^ (d + t) + i * 2 ^ t + j)) (2 ^ t)
theorem lsu_s {p : Nat → Bool} : ∀ e d i, lsu p d i (e + 1) = (if p (2 ^ d + i) then 1 else 0) + lsu p (d + 1) (2 * i) e + lsu p (d + 1) (2 * i + 1) e := by
  intro e
  induction e with
  | zero =>
    intro d i
    show 0 + (0 + if p (2 ^ (d + 0) + i * 2 ^ 0 + 0) = true then 1 else 0) = (if p (2 ^ d + i) then 1 else 0) + 0 + 0
    rw [show 2 ^ (d + 0) + i * 2 ^ 0 + 0 = 2 ^ d + i by rw [Nat.pow_zero, Nat.mul_one]; rfl]
    omega
  | succ e ih =>
    intro d i
    have h1 : lsu p d i (e + 1 + 1) = lsu p d i (e + 1) + cb (fun j => p (2 ^ (d + (e + 1)) + i * 2 ^ (e + 1) + j)) (2 ^ (e + 1)) := rfl
    have h2 : lsu p (d + 1) (2 * i) (e + 1) = lsu p (d + 1) (2 * i) e + cb (fun j => p (2 ^ (d + 1 + e) + 2 * i * 2 ^ e + j)) (2 ^ e) := rfl
    have h3 : lsu p (d + 1) (2 * i + 1) (e + 1) = lsu p (d + 1) (2 * i + 1) e + cb (fun j => p (2 ^ (d + 1 + e) + (2 * i + 1) * 2 ^ e + j)) (2 ^ e) := rfl
    rw [h1, h2, h3, ih d i]
    have hp : 2 ^ (e + 1) = 2 ^ e + 2 ^ e := by rw [Nat.pow_succ]; omega
    have e1 : 2 ^ (d + (e + 1)) = 2 ^ (d + 1 + e) := by congr 1; omega
    have e2 : i * 2 ^ (e + 1) = 2 * i * 2 ^ e := by rw [Nat.pow_succ, Nat.mul_comm 2 i, Nat.mul_assoc, Nat.mul_comm 2 (2 ^ e)]
    have e3 : (2 * i + 1) * 2 ^ e = 2 * i * 2 ^ e + 2 ^ e := by rw [Nat.add_mul, Nat.one_mul]
    have h4 : cb (fun j => p (2 ^ (d + (e + 1)) + i * 2 ^ (e + 1) + j)) (2 ^ (e + 1)) = cb (fun j => p (2 ^ (d + 1 + e) + 2 * i * 2 ^ e + j)) (2 ^ e) + cb (fun j => p (2 ^ (d + 1 + e) + (2 * i + 1) * 2 ^ e + j)) (2 ^ e) := by
      rw [hp, cb_add, e1]
      congr 1
      · refine cb_cong (fun j _ => ?_)
        show p (2 ^ (d + 1 + e) + i * (2 ^ e + 2 ^ e) + j) = p (2 ^ (d + 1 + e) + 2 * i * 2 ^ e + j)
        rw [← hp, e2]
      · refine cb_cong (fun j _ => ?_)
        show p (2 ^ (d + 1 + e) + i * (2 ^ e + 2 ^ e) + (2 ^ e + j)) = p (2 ^ (d + 1 + e) + (2 * i + 1) * 2 ^ e + j)
        rw [← hp, e2, e3]
        congr 1
        omega
    rw [h4]
    omega
theorem O9_l {p : Nat → Bool} : ∀ e d i, O9 p e d i = lsu p d i e := by
  intro e
  induction e with
  | zero => intro d i; rfl
  | succ e ih =>
    intro d i
    rw [lsu_s]
    show (if p (2 ^ d + i) then 1 else 0) + O9 p e (d + 1) (2 * i) + O9 p e (d + 1) (2 * i + 1) = _
    rw [ih, ih]
theorem cb_l {p : Nat → Bool} : ∀ s : Nat, cb p (2 ^ s) = cb p 1 + lsu p 0 0 s := by
  intro s
  induction s with
  | zero => rfl
  | succ s ih =>
    have h1 : lsu p 0 0 (s + 1) = lsu p 0 0 s + cb (fun j => p (2 ^ (0 + s) + 0 * 2 ^ s + j)) (2 ^ s) := rfl
    rw [show 2 ^ (s + 1) = 2 ^ s + 2 ^ s by rw [Nat.pow_succ]; omega, cb_add, ih, h1]
    have : cb (fun i => p (2 ^ s + i)) (2 ^ s) = cb (fun j => p (2 ^ (0 + s) + 0 * 2 ^ s + j)) (2 ^ s) := cb_cong (fun j _ => by
      show p (2 ^ s + j) = p (2 ^ (0 + s) + 0 * 2 ^ s + j)
      rw [Nat.zero_add, Nat.zero_mul]
      rfl)
    omega
theorem cbr_O {p : Nat → Bool} (s : Nat) : cbr p 1 (2 ^ s) = O9 (fun m => decide (1 ≤ m) && p m) s 0 0 := by
  rw [O9_l]
  show cb (fun m => decide (1 ≤ m) && p m) (2 ^ s) = _
  have h0 : cb (fun m => decide (1 ≤ m) && p m) 1 = 0 := rfl
  rw [cb_l, h0, Nat.zero_add]
def OP (J : mJ) (w a b tn : Nat) : Nat → Bool := fun m => decide (1 ≤ m) && !lfb J w a b (decide (tn = 1)) m
theorem rg_e {i e : Nat} : 2 * i * 2 ^ e = i * 2 ^ (e + 1) ∧ (2 * i + 1 + 1) * 2 ^ e = (i + 1) * 2 ^ (e + 1) := by
  constructor
  · rw [Nat.pow_succ, Nat.mul_comm 2 i, Nat.mul_assoc, Nat.mul_comm 2 (2 ^ e)]
  · rw [Nat.pow_succ, show 2 * i + 1 + 1 = (i + 1) * 2 by omega, Nat.mul_assoc, Nat.mul_comm 2 (2 ^ e)]
theorem closed_all (h : TH I J N ni s w kd ow r2 r3 bar) {a b tn : Nat} (ha : a < N) (hb : b < N) (htn : tn < 2) : ∀ e d i, d + e = s → i < 2 ^ d → lfQ (TD N s kd r2 r3 d (mir d i)) a b tn bar → (∀ j, i * 2 ^ e ≤ j → j < (i + 1) * 2 ^ e → dbit J w a b (decide (tn = 1)) j = false) ∧ O9 (OP J w a b tn) e d i = 0 := by
  intro e
  induction e with
  | zero =>
    intro d i hd hi hq
    obtain rfl : d = s := by omega
    refine ⟨fun j h1 h2 => ?_, rfl⟩
    rw [Nat.pow_zero, Nat.mul_one] at h1 h2
    obtain rfl : j = i := by omega
    exact (leaf_lf h hi ha hb htn).mpr hq
  | succ e ih =>
    intro d i hd hi hq
    have hrk := h.1
    have hbar := h.2.2.2.2.1
    have hs7 : s ≤ 7 := hrk.2.2.2.2.2.2.2
    obtain ⟨m1, m2⟩ := mir_ch d (by omega) i hi
    have hp : 2 ^ (d + 1) = 2 ^ d + 2 ^ d := by rw [Nat.pow_succ]; omega
    have q1 : lfQ (TD N s kd r2 r3 (d + 1) (mir (d + 1) (2 * i))) a b tn bar := by
      rw [m1]
      exact lf_mono (fun k hk => TD_mono hrk (by omega) (fun j _ => rfl) N k hk hk) ha hb hbar hq
    have q2 : lfQ (TD N s kd r2 r3 (d + 1) (mir (d + 1) (2 * i + 1))) a b tn bar := by
      rw [m2]
      exact lf_mono (fun k hk => TD_mono hrk (by omega) ch_bits N k hk hk) ha hb hbar hq
    obtain ⟨a1, a2⟩ := ih (d + 1) (2 * i) (by omega) (by omega) q1
    obtain ⟨b1, b2⟩ := ih (d + 1) (2 * i + 1) (by omega) (by omega) q2
    obtain ⟨r1, r2'⟩ := rg_e (i := i) (e := e)
    rw [r1] at a1
    rw [r2'] at b1
    refine ⟨fun j h1 h2 => ?_, ?_⟩
    · rcases Nat.lt_or_ge j ((2 * i + 1) * 2 ^ e) with z | z
      · exact a1 j h1 z
      · exact b1 j z h2
    · show (if OP J w a b tn (2 ^ d + i) = true then 1 else 0) + _ + _ = 0
      have ho : OP J w a b tn (2 ^ d + i) = false := by
        unfold OP
        rw [(node_lf h (by omega) hi ha hb htn).mpr hq, Bool.not_true, Bool.and_false]
      rw [ho, a2, b2]
      rfl
theorem dfs_main (h : TH I J N ni s w kd ow r2 r3 bar) {a b tn : Nat} (ha : a < N) (hb : b < N) (htn : tn < 2) : ∀ e d i, d + e = s → i < 2 ^ d → ((∀ j, i * 2 ^ e ≤ j → j < (i + 1) * 2 ^ e → dbit J w a b (decide (tn = 1)) j = false) ∧ lvR (TD N s kd r2 r3) a b tn bar e d (mir d i) = ((1 + O9 (OP J w a b tn) e d i : Nat) : Int)) ∨
    ∃ j, i * 2 ^ e ≤ j ∧ j < (i + 1) * 2 ^ e ∧ dbit J w a b (decide (tn = 1)) j = true ∧ (∀ j1, i * 2 ^ e ≤ j1 → j1 < j → dbit J w a b (decide (tn = 1)) j1 = false) ∧ lvR (TD N s kd r2 r3) a b tn bar e d (mir d i) = ((mir s j : Nat) : Int) - 100000 := by
  have hs7 : s ≤ 7 := h.1.2.2.2.2.2.2.2
  intro e
  induction e with
  | zero =>
    intro d i hd hi
    obtain rfl : d = s := by omega
    rw [Nat.pow_zero, Nat.mul_one, Nat.mul_one]
    by_cases hq : lfQ (TD N d kd r2 r3 d (mir d i)) a b tn bar
    · refine Or.inl ⟨fun j h1 h2 => ?_, lv_leaf hq⟩
      obtain rfl : j = i := by omega
      exact (leaf_lf h hi ha hb htn).mpr hq
    · refine Or.inr ⟨i, Nat.le_refl _, by omega, ?_, fun j h1 h2 => by omega, lv_0 hq⟩
      cases z : dbit J w a b (decide (tn = 1)) i with
      | true => rfl
      | false => exact absurd ((leaf_lf h hi ha hb htn).mp z) hq
  | succ e ih =>
    intro d i hd hi
    have hp : 2 ^ (d + 1) = 2 ^ d + 2 ^ d := by rw [Nat.pow_succ]; omega
    by_cases hq : lfQ (TD N s kd r2 r3 d (mir d i)) a b tn bar
    · obtain ⟨c1, c2⟩ := closed_all h ha hb htn (e + 1) d i hd hi hq
      exact Or.inl ⟨c1, by rw [lv_leaf hq, c2]; rfl⟩
    · obtain ⟨m1, m2⟩ := mir_ch d (by omega) i hi
      have ho : OP J w a b tn (2 ^ d + i) = true := by
        unfold OP
        have h1 := Nat.two_pow_pos d
        rw [decide_eq_true (show 1 ≤ 2 ^ d + i by omega), Bool.true_and]
        cases z : lfb J w a b (decide (tn = 1)) (2 ^ d + i) with
        | false => rfl
        | true => exact absurd ((node_lf h (by omega) hi ha hb htn).mp z) hq
      have hO : O9 (OP J w a b tn) (e + 1) d i = 1 + O9 (OP J w a b tn) e (d + 1) (2 * i) + O9 (OP J w a b tn) e (d + 1) (2 * i + 1) := by
        show (if OP J w a b tn (2 ^ d + i) = true then 1 else 0) + _ + _ = _
        rw [if_pos ho]
      have i1 := ih (d + 1) (2 * i) (by omega) (by omega)
      have i2 := ih (d + 1) (2 * i + 1) (by omega) (by omega)
      obtain ⟨g1, g2⟩ := rg_e (i := i) (e := e)
      rw [g1, m1] at i1
      rw [g2, m2] at i2
      have hmid : i * 2 ^ (e + 1) ≤ (2 * i + 1) * 2 ^ e ∧ (2 * i + 1) * 2 ^ e ≤ (i + 1) * 2 ^ (e + 1) := by
        rw [← g1, ← g2]
        exact ⟨Nat.mul_le_mul_right _ (by omega), Nat.mul_le_mul_right _ (by omega)⟩
      rw [lv_s hq]
      rcases i1 with ⟨a1, a2⟩ | ⟨j, a1, a2, a3, a4, a5⟩
      · rw [a2, if_neg (by omega)]
        rcases i2 with ⟨b1, b2⟩ | ⟨j, b1, b2, b3, b4, b5⟩
        · refine Or.inl ⟨fun j h1 h2 => ?_, ?_⟩
          · rcases Nat.lt_or_ge j ((2 * i + 1) * 2 ^ e) with z | z
            · exact a1 j h1 z
            · exact b1 j z h2
          · rw [b2, if_neg (by omega), hO]
            omega
        · have hmj := mir_lt (s := s) (c := j) (by omega)
          have hp7 := pow2_7 hs7
          refine Or.inr ⟨j, by omega, b2, b3, fun j1 h1 h2 => ?_, ?_⟩
          · rcases Nat.lt_or_ge j1 ((2 * i + 1) * 2 ^ e) with z | z
            · exact a1 j1 h1 z
            · exact b4 j1 z h2
          · rw [b5, if_pos (by omega)]
      · have hmj := mir_lt (s := s) (c := j) (by omega)
        have hp7 := pow2_7 hs7
        refine Or.inr ⟨j, a1, by omega, a3, a4, ?_⟩
        rw [a5, if_pos (by omega)]
/-- the law's leaves are the class's -/
theorem lv_spec (h : TH I J N ni s w kd ow r2 r3 bar) {a b tn : Nat} (ha : a < N) (hb : b < N) (htn : tn < 2) :
    (∃ i, i < 2 ^ s ∧ dbit J w a b (decide (tn = 1)) i = true ∧ (∀ j, j < i → dbit J w a b (decide (tn = 1)) j = false) ∧ lvR (TD N s kd r2 r3) a b tn bar s 0 0 = ((mir s i : Nat) : Int) - 100000) ∨
    ((∀ i, i < 64 * w → dbit J w a b (decide (tn = 1)) i = false) ∧ lvR (TD N s kd r2 r3) a b tn bar s 0 0 = ((1 + cbr (fun i => !lfb J w a b (decide (tn = 1)) i) 1 (2 ^ s) : Nat) : Int)) := by
  have g := dfs_main h ha hb htn s 0 0 (by omega) (by decide)
  rw [mir_0, Nat.zero_mul, Nat.zero_add, Nat.one_mul] at g
  rcases g with ⟨g1, g2⟩ | ⟨j, g1, g2, g3, g4, g5⟩
  · refine Or.inr ⟨fun i hi => ?_, ?_⟩
    · rcases Nat.lt_or_ge i (2 ^ s) with z | z
      · exact g1 i (Nat.zero_le _) z
      · exact dbit_k (h.2.2.2.2.2.2.2 i z hi)
    · rw [g2, cbr_O]
      rfl
  · exact Or.inl ⟨j, g2, g3, fun j1 h1 => g4 j1 (Nat.zero_le _) h1, g5⟩
end
end TM1
