section CN1
/-- a byte in front of a row of bytes -/
theorem by_and {a b c d : Nat} (ha : a < 256) (hc : c < 256) : (a + 256 * b) &&& (c + 256 * d) = (a &&& c) + 256 * (b &&& d) := by
  apply Nat.eq_of_testBit_eq
  intro i
  have h : a &&& c < 256 := Nat.lt_of_le_of_lt Nat.and_le_left ha
  rw [Nat.testBit_and, Nat.add_comm a, Nat.add_comm c, Nat.add_comm (a &&& c)]
  rw [show (256 : Nat) = 2 ^ 8 from rfl] at *
  rw [Nat.testBit_two_pow_mul_add _ ha, Nat.testBit_two_pow_mul_add _ hc, Nat.testBit_two_pow_mul_add _ h]
  by_cases q : i < 8
  · rw [if_pos q, if_pos q, if_pos q, Nat.testBit_and]
  · rw [if_neg q, if_neg q, if_neg q, Nat.testBit_and]
def mk8 (c : Nat) : Nat → Nat | 0 => 0 | k + 1 => c + 256 * mk8 c k
def f1 (k n : Nat) : Nat := n - (n / 2 &&& mk8 85 k)
def f2 (k n : Nat) : Nat := (n &&& mk8 51 k) + (n / 4 &&& mk8 51 k)
def f3 (k n : Nat) : Nat := (n + n / 16) &&& mk8 15 k
def p1 (b : Nat) : Nat := b - (b / 2 &&& 85)
def p2 (b : Nat) : Nat := (b &&& 51) + (b / 4 &&& 51)
theorem p1_chk : ∀ lo, lo < 256 → ∀ h, h < 2 → (lo / 2 + 128 * h) &&& 85 = lo / 2 &&& 85 := by decide +kernel
theorem p2_chk : ∀ lo, lo < 256 → ∀ h, h < 4 → (lo / 4 + 64 * h) &&& 51 = lo / 4 &&& 51 := by decide +kernel
def pcB (b : Nat) : Nat := b % 2 + b / 2 % 2 + b / 4 % 2 + b / 8 % 2 + b / 16 % 2 + b / 32 % 2 + b / 64 % 2 + b / 128 % 2
theorem p3_chk : ∀ b, b < 256 → ∀ h, h < 5 → (p2 (p1 b) + p2 (p1 b) / 16 + 16 * h) &&& 15 = pcB b ∧ p2 (p1 b) + p2 (p1 b) / 16 + 16 * h < 256 ∧ p2 (p1 b) % 16 < 5 ∧ p2 (p1 b) < 256 ∧ p1 b < 256 := by decide +kernel
theorem f1_s {k lo hi : Nat} (h : lo < 256) : f1 (k + 1) (lo + 256 * hi) = p1 lo + 256 * f1 k hi := by
  unfold f1 p1
  have e : (lo + 256 * hi) / 2 = (lo / 2 + 128 * (hi % 2)) + 256 * (hi / 2) := by omega
  show _ - ((lo + 256 * hi) / 2 &&& (85 + 256 * mk8 85 k)) = _
  rw [e, by_and (by omega) (by decide), p1_chk lo h (hi % 2) (by omega)]
  have h1 : lo / 2 &&& 85 ≤ lo / 2 := Nat.and_le_left
  have h2 : hi / 2 &&& mk8 85 k ≤ hi / 2 := Nat.and_le_left
  omega
theorem f2_s {k lo hi : Nat} (h : lo < 256) : f2 (k + 1) (lo + 256 * hi) = p2 lo + 256 * f2 k hi := by
  unfold f2 p2
  have e : (lo + 256 * hi) / 4 = (lo / 4 + 64 * (hi % 4)) + 256 * (hi / 4) := by omega
  show ((lo + 256 * hi) &&& (51 + 256 * mk8 51 k)) + ((lo + 256 * hi) / 4 &&& (51 + 256 * mk8 51 k)) = _
  rw [e, by_and h (by decide), by_and (by omega) (by decide), p2_chk lo h (hi % 4) (by omega)]
  omega
def byt (n : Nat) : Nat → Nat | 0 => n % 256 | k + 1 => byt (n / 256) k
/-- the row of bytes of the counts of bits -/
def pcR : Nat → Nat → Nat | 0, _ => 0 | k + 1, n => pcB (n % 256) + 256 * pcR k (n / 256)
theorem f12 : ∀ {k n : Nat}, n < 256 ^ k → f2 k (f1 k n) % 16 < 5 ∧ f3 k (f2 k (f1 k n)) = pcR k n := by
  intro k
  induction k with
  | zero =>
    intro n h
    have : n = 0 := by simpa using h
    subst this
    exact ⟨by decide, rfl⟩
  | succ k ih =>
    intro n h
    have hd : n = n % 256 + 256 * (n / 256) := by omega
    have hl : n % 256 < 256 := by omega
    have hh : n / 256 < 256 ^ k := by
      rw [Nat.pow_succ] at h
      omega
    obtain ⟨i1, i2⟩ := ih hh
    have c := p3_chk (n % 256) hl (f2 k (f1 k (n / 256)) % 16) i1
    have e1 : f2 (k + 1) (f1 (k + 1) n) = p2 (p1 (n % 256)) + 256 * f2 k (f1 k (n / 256)) := by
      conv => lhs; rw [hd]
      rw [f1_s hl, f2_s c.2.2.2.2]
    refine ⟨by rw [e1]; omega, ?_⟩
    rw [e1]
    have e2 : ∀ y : Nat, f3 (k + 1) (p2 (p1 (n % 256)) + 256 * y) = (p2 (p1 (n % 256)) + p2 (p1 (n % 256)) / 16 + 16 * (y % 16) &&& 15) + 256 * f3 k y ∨ ¬ y % 16 < 5 := by
      intro y
      by_cases q : y % 16 < 5
      · left
        have c2 := p3_chk (n % 256) hl (y % 16) q
        unfold f3
        show _ &&& (15 + 256 * mk8 15 k) = _
        have e3 : p2 (p1 (n % 256)) + 256 * y + (p2 (p1 (n % 256)) + 256 * y) / 16 = (p2 (p1 (n % 256)) + p2 (p1 (n % 256)) / 16 + 16 * (y % 16)) + 256 * (y + y / 16) := by omega
        rw [e3, by_and c2.2.1 (by decide)]
      · exact Or.inr q
    rcases e2 (f2 k (f1 k (n / 256))) with e | e
    · rw [e, i2, c.1]; rfl
    · exact absurd i1 e
theorem pcB_le (b : Nat) : pcB b ≤ 8 := by unfold pcB; omega
/-- the sum across -/
theorem dm {a b c : Nat} (h : a < b) : (a + b * c) / b = c := by rw [Nat.add_mul_div_left _ _ (by omega), Nat.div_eq_of_lt h, Nat.zero_add]
theorem two8 {a b m : Nat} : (a + 256 * m) + (b + 256 * 0) = a + b + 256 * m := by omega
theorem stp8 {x y a b p q : Nat} (hx : x = a + 256 * p) (hy : y = b + 256 * q) : x + y = (a + b) + 256 * (p + q) := by omega
theorem bnd8 {x a p A P : Nat} (hx : x = a + 256 * p) (ha : a ≤ A) (hp : p ≤ P) : x ≤ A + 256 * P := by omega
theorem asc2 {a b m : Nat} : a + 256 * (b + 256 * m) = (a + 256 * b) + 65536 * m := by omega
theorem asc4 {a b c d m : Nat} : a + 256 * (b + 256 * (c + 256 * (d + 256 * m))) = (a + 256 * (b + 256 * (c + 256 * d))) + 4294967296 * m := by omega
theorem lt2 {a b : Nat} (ha : a ≤ 16) (hb : b ≤ 16) : a + 256 * b < 65536 := by omega
theorem lt4 {a b c d : Nat} (ha : a ≤ 32) (hb : b ≤ 32) (hc : c ≤ 32) (hd : d ≤ 32) : a + 256 * (b + 256 * (c + 256 * d)) < 4294967296 := by omega
theorem lt256 {a : Nat} (ha : a ≤ 8) : a < 256 := by omega
theorem a8 {a b : Nat} (ha : a ≤ 8) (hb : b ≤ 8) : a + b ≤ 16 := by omega
theorem a16 {a b : Nat} (ha : a ≤ 16) (hb : b ≤ 16) : a + b ≤ 32 := by omega
theorem md8 {a b c d e f g h m : Nat} (ha : a ≤ 8) (hb : b ≤ 8) (hc : c ≤ 8) (hd : d ≤ 8) (he : e ≤ 8) (hf : f ≤ 8) (hg : g ≤ 8) (hh : h ≤ 8) : (a + b + (c + d) + (e + f + (g + h)) + 256 * m) % 128 = a + b + c + d + e + f + g + h := by omega
theorem hsum {c0 c1 c2 c3 c4 c5 c6 c7 n m1 m2 m3 m4 m5 m6 m7 : Nat} (h0 : c0 ≤ 8) (h1 : c1 ≤ 8) (h2 : c2 ≤ 8) (h3 : c3 ≤ 8) (h4 : c4 ≤ 8) (h5 : c5 ≤ 8) (h6 : c6 ≤ 8) (h7 : c7 ≤ 8)
    (e0 : n = c0 + 256 * m1) (e1 : m1 = c1 + 256 * m2) (e2 : m2 = c2 + 256 * m3) (e3 : m3 = c3 + 256 * m4) (e4 : m4 = c4 + 256 * m5) (e5 : m5 = c5 + 256 * m6) (e6 : m6 = c6 + 256 * m7) (e7 : m7 = c7 + 256 * 0) :
    ∃ n4 n5 n6 : Nat, n4 = n + n / 256 ∧ n5 = n4 + n4 / 65536 ∧ n6 = n5 + n5 / 4294967296 ∧ n4 < 18446744073709551616 ∧ n5 < 18446744073709551616 ∧ n6 < 18446744073709551616 ∧ n6 % 128 = c0 + c1 + c2 + c3 + c4 + c5 + c6 + c7 := by
  have b7 := bnd8 e7 h7 (Nat.le_refl 0)
  have b6 := bnd8 e6 h6 b7
  have b5 := bnd8 e5 h5 b6
  have b4 := bnd8 e4 h4 b5
  have b3 := bnd8 e3 h3 b4
  have b2 := bnd8 e2 h2 b3
  have b1 := bnd8 e1 h1 b2
  have b0 := bnd8 e0 h0 b1
  have s0 := stp8 e0 e1
  have s1 := stp8 e1 e2
  have s2 := stp8 e2 e3
  have s3 := stp8 e3 e4
  have s4 := stp8 e4 e5
  have s5 := stp8 e5 e6
  have s6 := stp8 e6 e7
  have t0 := stp8 s0 s2
  have t1 := stp8 s1 s3
  have t2 := stp8 s2 s4
  have t3 := stp8 s3 s5
  have t4 := stp8 s4 s6
  have d0 : n / 256 = m1 := by rw [e0, dm (lt256 h0)]
  have d4 : (n + m1) / 65536 = m2 + m3 := by
    rw [s0, s1, asc2, dm (lt2 (a8 h0 h1) (a8 h1 h2))]
  have d5 : (n + m1 + (m2 + m3)) / 4294967296 = m4 + m5 + (m6 + m7) := by
    rw [t0, t1, t2, t3, asc4, dm (lt4 (a16 (a8 h0 h1) (a8 h2 h3)) (a16 (a8 h1 h2) (a8 h3 h4)) (a16 (a8 h2 h3) (a8 h4 h5)) (a16 (a8 h3 h4) (a8 h5 h6)))]
  refine ⟨n + m1, n + m1 + (m2 + m3), n + m1 + (m2 + m3) + (m4 + m5 + (m6 + m7)), by rw [d0], by rw [d4], by rw [d5], ?_, ?_, ?_, ?_⟩
  · exact Nat.lt_of_le_of_lt (Nat.add_le_add b0 b1) (by decide)
  · exact Nat.lt_of_le_of_lt (Nat.add_le_add (Nat.add_le_add b0 b1) (Nat.add_le_add b2 b3)) (by decide)
  · exact Nat.lt_of_le_of_lt (Nat.add_le_add (Nat.add_le_add (Nat.add_le_add b0 b1) (Nat.add_le_add b2 b3)) (Nat.add_le_add (Nat.add_le_add b4 b5) (Nat.add_le_add b6 b7))) (by decide)
  · rw [stp8 t0 t4]
    exact md8 h0 h1 h2 h3 h4 h5 h6 h7
end CN1
