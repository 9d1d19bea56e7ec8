section BT1
def lb (x : Int64) (i : Nat) : Bool := x.toBitVec.getLsbD i
theorem lb_ext {x y : Int64} (h : ∀ i, i < 64 → lb x i = lb y i) : x = y := Int64.toBitVec_inj.mp (BitVec.eq_of_getLsbD_eq (fun i hi => h i hi))
theorem lb_or (x y : Int64) (i : Nat) : lb (x ||| y) i = (lb x i || lb y i) := by unfold lb; rw [Int64.toBitVec_or, BitVec.getLsbD_or]
theorem lb_and (x y : Int64) (i : Nat) : lb (x &&& y) i = (lb x i && lb y i) := by unfold lb; rw [Int64.toBitVec_and, BitVec.getLsbD_and]
theorem lb_xor (x y : Int64) (i : Nat) : lb (x ^^^ y) i = (lb x i ^^ lb y i) := by unfold lb; rw [Int64.toBitVec_xor, BitVec.getLsbD_xor]
theorem lb_big {x : Int64} {i : Nat} (h : 64 ≤ i) : lb x i = false := BitVec.getLsbD_of_ge _ _ h
theorem lb_0 (i : Nat) : lb 0 i = false := BitVec.getLsbD_zero
theorem lb_m1 : ∀ i, i < 64 → lb (-1) i = true := by decide +kernel
theorem lb_not {x : Int64} {i : Nat} (h : i < 64) : lb (x ^^^ -1) i = !lb x i := by rw [lb_xor, lb_m1 i h, Bool.xor_true]
theorem shu_e : ∀ k, k < 64 → ((Int32.ofNat k).toInt64.toUInt64 &&& Int64.toUInt64 63).toBitVec.toNat % 64 = k := by decide +kernel
theorem shc_e : ∀ k, k < 64 → ((Int32.ofNat k).toInt64 &&& 63).toBitVec.smod 64 = BitVec.ofNat 64 k := by decide +kernel
theorem lb_ushr {x : Int64} {j : Nat} (hj : j < 64) (i : Nat) : lb ((x.toUInt64 >>> ((Int32.ofInt (j : Int)).toInt64.toUInt64 &&& Int64.toUInt64 63)).toInt64) i = lb x (j + i) := by
  rw [oi_nat]
  show (x.toUInt64 >>> ((Int32.ofNat j).toInt64.toUInt64 &&& Int64.toUInt64 63)).toBitVec.getLsbD i = x.toUInt64.toBitVec.getLsbD (j + i)
  rw [UInt64.toBitVec_shiftRight]
  show (x.toUInt64.toBitVec >>> (((Int32.ofNat j).toInt64.toUInt64 &&& Int64.toUInt64 63).toBitVec % 64).toNat).getLsbD i = _
  rw [show (((Int32.ofNat j).toInt64.toUInt64 &&& Int64.toUInt64 63).toBitVec % 64).toNat = j from by
    rw [BitVec.toNat_umod]
    exact shu_e j hj, BitVec.getLsbD_ushiftRight]
theorem lb_shl {x : Int64} {j : Nat} (hj : j < 64) {i : Nat} (hi : i < 64) : lb (x <<< ((Int32.ofInt (j : Int)).toInt64 &&& 63)) i = (decide (j ≤ i) && lb x (i - j)) := by
  rw [oi_nat]
  unfold lb
  rw [Int64.toBitVec_shiftLeft]
  show (x.toBitVec <<< (((Int32.ofNat j).toInt64 &&& 63).toBitVec.smod 64).toNat).getLsbD i = _
  rw [shc_e j hj, BitVec.toNat_ofNat, Nat.mod_eq_of_lt (by omega), BitVec.getLsbD_shiftLeft]
  rcases Nat.lt_or_ge i j with h | h
  · simp [h, Nat.not_le.mpr h]
  · simp [hi, h, Nat.not_lt.mpr h]
theorem bz_b (b : Bool) : (if b = true then 1 else 0 : Int) = 0 ∨ (if b = true then 1 else 0 : Int) = 1 := by cases b <;> simp
theorem i1_bit : ∀ i, i < 32 → (1 : Int32).toBitVec.getLsbD i = decide (i = 0) := by decide +kernel
theorem l1_bit : ∀ i, i < 64 → lb 1 i = decide (i = 0) := by decide +kernel
/-- a bit of a word, as an int -/
theorem oi_bit {x : Int64} {j : Nat} (hj : j < 64) : ((x.toUInt64 >>> ((Int32.ofInt (j : Int)).toInt64.toUInt64 &&& Int64.toUInt64 63)).toInt64).toInt32 &&& (Int32.ofInt ((1 : Nat) : Int)) = Int32.ofInt (if lb x j = true then 1 else 0) := by
  have h0 := lb_ushr (x := x) hj 0
  have e1 : (Int32.ofInt ((1 : Nat) : Int)) = 1 := rfl
  rw [e1]
  apply Int32.toBitVec_inj.mp
  apply BitVec.eq_of_getLsbD_eq
  intro i hi
  rw [Int32.toBitVec_and, BitVec.getLsbD_and, i1_bit i hi]
  by_cases q : i = 0
  · subst q
    have e2 : ((x.toUInt64 >>> ((Int32.ofInt (j : Int)).toInt64.toUInt64 &&& Int64.toUInt64 63)).toInt64).toInt32.toBitVec.getLsbD 0 = lb x j := by
      rw [show lb x j = lb x (j + 0) from rfl, ← h0]
      show (((x.toUInt64 >>> ((Int32.ofInt (j : Int)).toInt64.toUInt64 &&& Int64.toUInt64 63)).toInt64).toBitVec.signExtend 32).getLsbD 0 = _
      rw [BitVec.getLsbD_signExtend]
      rfl
    rw [e2]
    cases lb x j <;> rfl
  · rw [decide_eq_false q, Bool.and_false]
    cases lb x j
    · show false = (0 : Int32).toBitVec.getLsbD i
      exact (BitVec.getLsbD_zero).symm
    · show false = (1 : Int32).toBitVec.getLsbD i
      rw [i1_bit i hi, decide_eq_false q]
theorem lg_bit {x : Int64} {j : Nat} (hj : j < 64) : lg_cmp ((x.toUInt64 >>> ((Int32.ofInt (j : Int)).toInt64.toUInt64 &&& Int64.toUInt64 63)).toInt64 &&& Int64.ofNat ((1 : Fin 2) : Nat)) (Int64.ofNat ((0 : Fin 2) : Nat)) = Int32.ofInt (if lb x j = true then 1 else 0) := by
  have e : (x.toUInt64 >>> ((Int32.ofInt (j : Int)).toInt64.toUInt64 &&& Int64.toUInt64 63)).toInt64 &&& Int64.ofNat ((1 : Fin 2) : Nat) = if lb x j = true then 1 else 0 := by
    apply lb_ext
    intro i hi
    rw [lb_and, lb_ushr hj]
    show (lb x (j + i) && lb 1 i) = _
    rw [l1_bit i hi]
    by_cases q : i = 0
    · subst q
      show (lb x j && true) = _
      cases lb x j <;> rfl
    · rw [decide_eq_false q, Bool.and_false]
      cases lb x j
      · exact (lb_0 i).symm
      · show false = lb 1 i
        rw [l1_bit i hi, decide_eq_false q]
  rw [e]
  cases lb x j <;> decide
/-- how many of the first n bits are set -/
def cb (p : Nat → Bool) : Nat → Nat | 0 => 0 | n + 1 => cb p n + if p n then 1 else 0
theorem cb_cong {p q : Nat → Bool} : ∀ {n : Nat}, (∀ i, i < n → p i = q i) → cb p n = cb q n := by
  intro n
  induction n with
  | zero => intro _; rfl
  | succ n ih =>
    intro h
    show cb p n + _ = cb q n + _
    rw [ih (fun i hi => h i (by omega)), h n (by omega)]
theorem cb_le {p : Nat → Bool} : ∀ n : Nat, cb p n ≤ n := by
  intro n
  induction n with
  | zero => exact Nat.le_refl _
  | succ n ih =>
    show cb p n + _ ≤ n + 1
    split <;> omega
end BT1
