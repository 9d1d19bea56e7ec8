section LW1
theorem cb_dec {t : Nat} : ∀ n : Nat, cb (fun i => decide (i < t)) n = min n t := by
  intro n
  induction n with
  | zero => show 0 = min 0 t; omega
  | succ n ih =>
    show cb _ n + (if decide (n < t) = true then 1 else 0) = _
    rw [ih]
    by_cases q : n < t
    · rw [if_pos (decide_eq_true q)]; omega
    · rw [if_neg (fun e => q (of_decide_eq_true e))]; omega
theorem and_mul2 {a b t : Nat} : (2 ^ t * a) &&& (2 ^ t * b) = 2 ^ t * (a &&& b) := by
  apply Nat.eq_of_testBit_eq
  intro i
  rw [Nat.testBit_and, Nat.testBit_two_pow_mul, Nat.testBit_two_pow_mul, Nat.testBit_two_pow_mul, Nat.testBit_and]
  cases decide (i ≥ t) <;> simp
theorem and_odd {a b : Nat} : (2 * a + 1) &&& (2 * b + 1) = 2 * (a &&& b) + 1 := by
  apply Nat.eq_of_testBit_eq
  intro i
  rw [Nat.testBit_and]
  cases i with
  | zero => rw [Nat.testBit_zero, Nat.testBit_zero, Nat.testBit_zero, decide_eq_true (show (2 * a + 1) % 2 = 1 by omega), decide_eq_true (show (2 * b + 1) % 2 = 1 by omega), decide_eq_true (show (2 * (a &&& b) + 1) % 2 = 1 by omega)]; rfl
  | succ j => rw [Nat.testBit_succ, Nat.testBit_succ, Nat.testBit_succ, show (2 * a + 1) / 2 = a by omega, show (2 * b + 1) / 2 = b by omega, show (2 * (a &&& b) + 1) / 2 = a &&& b by omega, Nat.testBit_and]
theorem and_cpl {q k : Nat} (h : q < 2 ^ k) : q &&& (2 ^ k - (q + 1)) = 0 := by
  apply Nat.eq_of_testBit_eq
  intro i
  rw [Nat.testBit_and, Nat.testBit_two_pow_sub_succ h, Nat.zero_testBit]
  cases q.testBit i <;> simp
/-- the lowest bit of a number that is not 0 -/
theorem low_of : ∀ (k n : Nat), n < 2 ^ k → 0 < n → ∃ t q, t < k ∧ n = 2 ^ t * (2 * q + 1) ∧ q < 2 ^ (k - 1 - t) := by
  intro k
  induction k with
  | zero => intro n h1 h2; simp at h1; omega
  | succ k ih =>
    intro n h1 h2
    rw [Nat.pow_succ] at h1
    rcases Nat.mod_two_eq_zero_or_one n with q | q
    · obtain ⟨t, r, g1, g2, g3⟩ := ih (n / 2) (by omega) (by omega)
      refine ⟨t + 1, r, by omega, ?_, ?_⟩
      · rw [Nat.pow_succ, Nat.mul_assoc, Nat.mul_comm 2, ← Nat.mul_assoc, ← g2]; omega
      · rw [show k + 1 - 1 - (t + 1) = k - 1 - t by omega]; exact g3
    · exact ⟨0, n / 2, by omega, by omega, by rw [show k + 1 - 1 - 0 = k by omega]; omega⟩
theorem tb_low {t q i : Nat} (h : i < t) : (2 ^ t * (2 * q + 1)).testBit i = false := by
  rw [Nat.testBit_two_pow_mul]
  simp
  intro h2
  omega
theorem tb_at {t q : Nat} : (2 ^ t * (2 * q + 1)).testBit t = true := by
  rw [Nat.testBit_two_pow_mul]
  simp
theorem nL_neg {x : Int64} (h : 0 < nL x) : nL (-x) = 18446744073709551616 - nL x := by
  have h1 := nL_lt x
  unfold nL at *
  rw [Int64.toBitVec_neg, BitVec.toNat_neg]
  omega
theorem l64_one : nL (Int64.ofNat ((1 : Fin 2) : Nat)) = 1 := by decide
theorem nL_inj {x y : Int64} (h : nL x = nL y) : x = y := Int64.toBitVec_inj.mp (BitVec.eq_of_toNat_eq h)
theorem nL_pos {x : Int64} (h : ¬ x = 0) : 0 < nL x := by
  rcases Nat.eq_zero_or_pos (nL x) with q | q
  · exact absurd (nL_inj (y := 0) (q.trans (by decide))) h
  · exact q
/-- what the lowest bit's number is -/
theorem low_bit {x : Int64} (hx : ¬ x = 0) : ∃ t, t < 64 ∧ lb x t = true ∧ (∀ j, j < t → lb x j = false) ∧ cb (lb ((x &&& -x) - Int64.ofNat ((1 : Fin 2) : Nat))) 64 = t := by
  have h0 := nL_pos hx
  obtain ⟨t, q, h1, h2, h3⟩ := low_of 64 (nL x) (nL_lt x) h0
  refine ⟨t, h1, ?_, fun j hj => ?_, ?_⟩
  · rw [lb_t, h2]; exact tb_at
  · rw [lb_t, h2]; exact tb_low hj
  · have e1 : nL (-x) = 2 ^ t * (2 * (2 ^ (63 - t) - (q + 1)) + 1) := by
      rw [nL_neg h0, h2]
      have e2 : (18446744073709551616 : Nat) = 2 ^ t * (2 * 2 ^ (63 - t)) := by
        rw [show 2 * 2 ^ (63 - t) = 2 ^ (64 - t) from by rw [show 64 - t = (63 - t) + 1 by omega, Nat.pow_succ, Nat.mul_comm], ← Nat.pow_add, show t + (64 - t) = 64 by omega]
      rw [e2, ← Nat.mul_sub]
      congr 1
      have h4 : q < 2 ^ (63 - t) := by rw [show 63 - t = 64 - 1 - t by omega]; exact h3
      omega
    have e3 : nL (x &&& -x) = 2 ^ t := by
      rw [nL_and, e1, h2, and_mul2, and_odd, and_cpl (by rw [show 63 - t = 64 - 1 - t by omega]; exact h3)]
      omega
    have e4 : nL ((x &&& -x) - Int64.ofNat ((1 : Fin 2) : Nat)) = 2 ^ t - 1 := by
      have := Nat.two_pow_pos t
      rw [nL_sub (by rw [l64_one, e3]; omega), l64_one, e3]
    rw [cb_cong (q := fun i => decide (i < t)) (fun i hi => by rw [lb_t, e4, Nat.testBit_two_pow_sub_one]), cb_dec]
    omega
theorem lb_low {j i : Nat} (hj : j < 64) (hi : i < 64) : lb ((Int64.ofNat ((1 : Fin 2) : Nat)) <<< ((Int32.ofInt (j : Int)).toInt64 &&& 63) - Int64.ofNat ((1 : Fin 2) : Nat)) i = decide (i < j) := by
  have e3 : nL ((Int64.ofNat ((1 : Fin 2) : Nat)) <<< ((Int32.ofInt (j : Int)).toInt64 &&& 63)) = 2 ^ j := by
    apply Nat.eq_of_testBit_eq
    intro k
    rw [Nat.testBit_two_pow]
    rcases Nat.lt_or_ge k 64 with q | q
    · have := lb_shl (x := Int64.ofNat ((1 : Fin 2) : Nat)) hj q
      rw [lb_t] at this
      rw [this, show lb (Int64.ofNat ((1 : Fin 2) : Nat)) (k - j) = decide (k - j = 0) from l1_bit _ (by omega)]
      by_cases z : j = k
      · subst z; simp
      · rw [decide_eq_false z]
        by_cases z2 : j ≤ k
        · rw [decide_eq_false (show ¬ k - j = 0 by omega), Bool.and_false]
        · rw [decide_eq_false z2]; rfl
    · rw [decide_eq_false (show ¬ j = k by omega)]
      exact Nat.testBit_lt_two_pow (Nat.lt_of_lt_of_le (nL_lt _) (Nat.pow_le_pow_right (n := 2) (i := 64) (by decide) q))
  have h2 := Nat.two_pow_pos j
  rw [lb_t, nL_sub (by rw [l64_one, e3]; omega), l64_one, e3, Nat.testBit_two_pow_sub_one]
end LW1
