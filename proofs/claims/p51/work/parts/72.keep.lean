section KM1
variable {I : mI} {J : mJ} {N ni s w : Nat} {kd : Nat → Int} {ow r2 r3 : Nat → Nat}
/-- does a line depend on a cell? -/
def hcl (N s ni : Nat) (kd : Nat → Int) (r2 r3 : Nat → Nat) (j : Nat) : Bool := bvl s (fun _ => 111) r2 (pbF kd r2 r3) (fun i => decide (ni ≤ i)) N j
theorem hcl_s {j : Nat} (h : j < s) (h2 : s ≤ N) : hcl N s ni kd r2 r3 j = decide (ni ≤ j) := bvl_src h (by omega)
theorem hcl_g {j : Nat} (h : s ≤ j) (h2 : j < N) (ha : r2 j < j) (hb : r3 j < j) : hcl N s ni kd r2 r3 j = (hcl N s ni kd r2 r3 (r2 j) || hcl N s ni kd r2 r3 (pbF kd r2 r3 j)) := bvl_gt h h2 ha (pb_lt ha hb)
theorem hcl_ind (hrk : RKq N ni s kd ow r2 r3) {c c1 : Nat} (hc : ∀ j, j < ni → c.testBit j = c1.testBit j) : ∀ m j, j < m → j < N → hcl N s ni kd r2 r3 j = false → vlw N s kd r2 r3 c j = vlw N s kd r2 r3 c1 j := by
  obtain ⟨ki, kc9, kg, hni1, hnis, hsN, hN23, hs7⟩ := hrk
  intro m
  induction m with
  | zero => intro j hj; omega
  | succ m ih =>
    intro j hj hjN h
    rcases Nat.lt_or_ge j s with q | q
    · rw [hcl_s q hsN] at h
      have := of_decide_eq_false h
      rw [vlw_s q hsN, vlw_s q hsN]
      exact hc j (by omega)
    · obtain ⟨g1, g2, g3, g4, -⟩ := kg j q hjN
      have hp := pb_lt (kd := kd) g3 g4
      rw [hcl_g q hjN g3 g4, Bool.or_eq_false_iff] at h
      rw [vlw_g2 q hjN g3 g4, vlw_g2 q hjN g3 g4, ih _ (by omega) (by omega) h.1, ih _ (by omega) (by omega) h.2]
theorem cb_range {p : Nat → Bool} : ∀ n : Nat, cb p n = (List.range n).countP p := by
  intro n
  induction n with
  | zero => rfl
  | succ n ih =>
    show cb p n + (if p n then 1 else 0) = _
    rw [List.range_succ, List.countP_append, ih, List.countP_singleton]
theorem mir_perm : ∀ s, s < 8 → ((List.range (2 ^ s)).map (mir s)).isPerm (List.range (2 ^ s)) = true := by decide +kernel
theorem cb_mir {p : Nat → Bool} (hs : s < 8) : cb (fun c => p (mir s c)) (2 ^ s) = cb p (2 ^ s) := by
  have h := (List.isPerm_iff.mp (mir_perm s hs)).countP_eq p
  rw [cb_range, cb_range, ← h, List.countP_map]
  rfl
theorem sumN_cb {x : Nat → Int64} : ∀ w : Nat, sumN (fun u => cb (lb (x u)) 64) w = cb (fun i => lb (x (i / 64)) (i % 64)) (64 * w) := by
  intro w
  induction w with
  | zero => rfl
  | succ w ih =>
    show sumN (fun u => cb (lb (x u)) 64) w + cb (lb (x w)) 64 = _
    rw [ih, show 64 * (w + 1) = 64 * w + 64 by omega, cb_add]
    congr 1
    refine cb_cong (fun i hi => ?_)
    show lb (x w) i = lb (x ((64 * w + i) / 64)) ((64 * w + i) % 64)
    rw [show (64 * w + i) / 64 = w by omega, show (64 * w + i) % 64 = i by omega]
theorem cb_zero {p : Nat → Bool} : ∀ n : Nat, (∀ i, i < n → p i = false) → cb p n = 0 := by
  intro n
  induction n with
  | zero => intro _; rfl
  | succ n ih =>
    intro h
    show cb p n + (if p n then 1 else 0) = 0
    rw [ih (fun i hi => h i (by omega)), h n (by omega)]
    rfl
theorem cb_cut {p : Nat → Bool} {m n : Nat} (hmn : m ≤ n) (h : ∀ i, m ≤ i → i < n → p i = false) : cb p n = cb p m := by
  obtain ⟨k, rfl⟩ := Nat.exists_eq_add_of_le hmn
  rw [cb_add, cb_zero k (fun i hi => h (m + i) (by omega) (by omega))]
  rfl
theorem ev_out (hsw : (s ≤ 6 ∧ w = 1) ∨ (s = 7 ∧ w = 2)) {i : Nat} (h1 : 2 ^ s ≤ i) (h2 : i < 64 * w) : lb (evr s) (i % 64) = false := by
  rcases hsw with ⟨q, rfl⟩ | ⟨rfl, rfl⟩
  · rw [show i % 64 = i by omega]
    exact ev_chk s (by omega) i (by omega) h1
  · have : (2 : Nat) ^ 7 = 128 := rfl
    omega
/-- the base of the tree without a constraint -/
theorem TH_0 (hrk : RKq N ni s kd ow r2 r3) (hk3 : ∀ j, j < N → I 3 j = kd j) (hrec : ∀ j, j < N → REC I s w r2 (pbF kd r2 r3) J j) (hsw : (s ≤ 6 ∧ w = 1) ∨ (s = 7 ∧ w = 2)) (h29 : ∀ u, u < w → J 29 u = evr s) (h30 : ∀ q, J 30 q = 0) : TH I J N ni s w kd ow r2 r3 (-1) := by
  have h64 := s64 hsw
  refine ⟨hrk, hk3, hrec, hsw, Or.inl rfl, fun c hc => ?_, fun u _ => ?_, fun i h1 h2 => ?_⟩
  · have hm := mir_lt (s := s) (c := c) (by omega)
    unfold kbit
    rw [h29 _ (by omega), (hs_chk s (by omega) c hc).1]
    rfl
  · rw [h30 u]
    rfl
  · unfold kbit
    rw [h29 _ (by omega)]
    exact ev_out hsw h1 h2
theorem keep_eq (h : TH I J N ni s w kd ow r2 r3 (-1)) (h29 : ∀ u, u < w → J 29 u = evr s) {k : Nat} (hk : k < N) : sumN (fun u => cb (lb (J 29 u &&& J 26 (k * w + u))) 64) w = cb (fun c => vlw N s kd r2 r3 c k) (2 ^ s) := by
  have hv := fun c hc => hbit_vl h (k := k) (c := c) hk hc
  obtain ⟨hrk, hk3, hrec, hsw, -⟩ := h
  have hs7 : s ≤ 7 := hrk.2.2.2.2.2.2.2
  have h64 := s64 hsw
  rw [sumN_cb (x := fun u => J 29 u &&& J 26 (k * w + u)), cb_cut h64 (fun i h1 h2 => ?_), ← cb_mir (by omega)]
  · refine cb_cong (fun c hc => ?_)
    have hm := mir_lt (s := s) (c := c) (by omega)
    show lb (J 29 (mir s c / 64) &&& J 26 (k * w + mir s c / 64)) (mir s c % 64) = vlw N s kd r2 r3 c k
    rw [lb_and, h29 _ (by omega), (hs_chk s (by omega) c hc).1, Bool.true_and]
    exact hv c hc
  · show lb (J 29 (i / 64) &&& J 26 (k * w + i / 64)) (i % 64) = false
    rw [lb_and, h29 _ (by omega), ev_out hsw h1 h2, Bool.false_and]
theorem and_id (x y : Int64) : (x &&& y) &&& y = x &&& y := lb_ext (fun i _ => by rw [lb_and, lb_and, Bool.and_assoc, Bool.and_self])
theorem or_0 (y : Int64) : 0 ||| y = y := lb_ext (fun i _ => by rw [lb_or, lb_0, Bool.false_or])
/-- with the constraint -/
theorem TH_1 {I1 : mI} {J1 : mJ} {b : Nat} (h : TH I J N ni s w kd ow r2 r3 (-1)) (h29 : ∀ u, u < w → J 29 u = evr s) (h30 : ∀ q, J 30 q = 0) (hb : b < N) (hk3 : ∀ j, j < N → I1 3 j = kd j) (hrec : ∀ j, j < N → REC I1 s w r2 (pbF kd r2 r3) J1 j) (e26 : J1 26 = J 26) (e27 : J1 27 = J 27) (hn : ∀ u, u < w → J1 29 u = J 29 u &&& J 26 (b * w + u) ∧ J1 30 u = J 30 u ||| J 27 (b * w + u)) : TH I1 J1 N ni s w kd ow r2 r3 (b : Int) := by
  have hv := fun c hc => hbit_vl h (k := b) (c := c) hb hc
  obtain ⟨hrk, -, -, hsw, -⟩ := h
  have h64 := s64 hsw
  refine ⟨hrk, hk3, hrec, hsw, Or.inr ⟨by omega, by omega⟩, fun c hc => ?_, fun u hu => ?_, fun i h1 h2 => ?_⟩
  · have hm := mir_lt (s := s) (c := c) (by omega)
    unfold kbit
    rw [(hn _ (by omega)).1, lb_and, h29 _ (by omega), (hs_chk s (by omega) c hc).1, Bool.true_and, decide_eq_false (by omega), Bool.false_or, Int.toNat_natCast]
    exact hv c hc
  · rw [(hn u hu).2, h30, or_0, if_neg (by omega), Int.toNat_natCast, e27]
  · unfold kbit
    rw [(hn _ (by omega)).1, lb_and, h29 _ (by omega), ev_out hsw h1 h2, Bool.false_and]
/-- is a choice kept? -/
def kpt (N s : Nat) (kd : Nat → Int) (r2 r3 : Nat → Nat) (bar : Int) (c : Nat) : Bool := decide (bar < 0) || vlw N s kd r2 r3 c bar.toNat
theorem kpt_m (hrk : RKq N ni s kd ow r2 r3) {bar : Int} (hbar : bar < 0 ∨ (0 ≤ bar ∧ bar < (N : Int) ∧ hcl N s ni kd r2 r3 bar.toNat = false)) (c : Nat) : kpt N s kd r2 r3 bar c = kpt N s kd r2 r3 bar (c % 2 ^ ni) := by
  unfold kpt
  rcases hbar with h | ⟨h1, h2, h3⟩
  · rw [decide_eq_true h, Bool.true_or, Bool.true_or]
  · rw [hcl_ind hrk (c := c) (c1 := c % 2 ^ ni) (fun j hj => ?_) N bar.toNat (by omega) (by omega) h3]
    rw [Nat.testBit_mod_two_pow, decide_eq_true hj, Bool.true_and]
theorem orS_tb {f : Nat → Nat} (h : ∀ j, f j < 2) : ∀ k i, i < k → (orS f k).testBit i = decide (f i = 1) := by
  intro k
  induction k with
  | zero => intro i hi; omega
  | succ k ih =>
    intro i hi
    show (orS f k ||| f k * 2 ^ k).testBit i = _
    rw [Nat.testBit_or]
    rcases Nat.lt_or_ge i k with q | q
    · have h1 : (f k * 2 ^ k).testBit i = false := by
        rcases (show f k = 0 ∨ f k = 1 by have := h k; omega) with e | e
        · rw [e, Nat.zero_mul, Nat.zero_testBit]
        · rw [e, Nat.one_mul, Nat.testBit_two_pow, decide_eq_false (by omega)]
      rw [ih i q, h1, Bool.or_false]
    · obtain rfl : i = k := by omega
      rw [Nat.testBit_lt_two_pow (orS_lt h i), Bool.false_or]
      rcases (show f i = 0 ∨ f i = 1 by have := h i; omega) with e | e
      · rw [e, Nat.zero_mul, Nat.zero_testBit]; rfl
      · rw [e, Nat.one_mul, Nat.testBit_two_pow, decide_eq_true rfl]; rfl
theorem orS_eq {f g : Nat → Nat} (hf : ∀ j, f j < 2) (hg : ∀ j, g j < 2) {k : Nat} : orS f k = orS g k ↔ ∀ j, j < k → f j = g j := by
  constructor
  · intro h j hj
    have h1 := orS_tb hf k j hj
    rw [h, orS_tb hg k j hj] at h1
    have a := hf j
    have b := hg j
    rcases (show f j = 0 ∨ f j = 1 by omega) with e | e <;> rcases (show g j = 0 ∨ g j = 1 by omega) with e1 | e1 <;> rw [e, e1] at h1 ⊢ <;> simp at h1
  · intro h
    exact orS_cg h
theorem unl2_b {w no c : Nat} {ot : Nat → Nat → Nat} : unl2 J w s ot no c = anyB (fun j => hbit J w s (ot 0 j) c ^^ hbit J w s (ot 1 j) c) no := by
  unfold unl2 out
  cases e : anyB (fun j => hbit J w s (ot 0 j) c ^^ hbit J w s (ot 1 j) c) no with
  | true =>
    obtain ⟨j, hj, h⟩ := anyB_t.mp e
    rw [decide_eq_false]
    · rfl
    · intro h1
      have := (orS_eq (fun _ => bn_lt _) (fun _ => bn_lt _)).mp h1 j hj
      revert this h
      cases hbit J w s (ot 0 j) c <;> cases hbit J w s (ot 1 j) c <;> decide
  | false =>
    rw [decide_eq_true]
    · rfl
    · refine (orS_eq (fun _ => bn_lt _) (fun _ => bn_lt _)).mpr (fun j hj => ?_)
      have h := anyB_f.mp e j hj
      revert h
      cases hbit J w s (ot 0 j) c <;> cases hbit J w s (ot 1 j) c <;> decide
end KM1
