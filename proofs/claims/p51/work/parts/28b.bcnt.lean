section CN2
theorem cb_add {p : Nat → Bool} {a : Nat} : ∀ m : Nat, cb p (a + m) = cb p a + cb (fun i => p (a + i)) m := by
  intro m
  induction m with
  | zero => rfl
  | succ m ih =>
    show cb p (a + m) + (if p (a + m) then 1 else 0) = cb p a + (cb (fun i => p (a + i)) m + if p (a + m) then 1 else 0)
    rw [ih, Nat.add_assoc]
def sd8 : Nat → Nat → Nat | 0, _ => 0 | k + 1, n => pcB (n % 256) + sd8 k (n / 256)
theorem cb8 : ∀ b, b < 256 → cb (fun i => b.testBit i) 8 = pcB b := by decide +kernel
theorem cb_sd : ∀ (k n : Nat), cb (fun i => n.testBit i) (8 * k) = sd8 k n := by
  intro k
  induction k with
  | zero => intro n; rfl
  | succ k ih =>
    intro n
    rw [show 8 * (k + 1) = 8 + 8 * k by omega, cb_add]
    show _ = pcB (n % 256) + sd8 k (n / 256)
    rw [← ih, ← cb8 (n % 256) (Nat.mod_lt _ (by decide))]
    congr 1
    · refine cb_cong (fun i hi => ?_)
      rw [show (256 : Nat) = 2 ^ 8 from rfl, Nat.testBit_mod_two_pow, decide_eq_true hi, Bool.true_and]
    · refine cb_cong (fun i hi => ?_)
      rw [show (256 : Nat) = 2 ^ 8 from rfl, Nat.testBit_div_two_pow, Nat.add_comm]
def uR (k : Nat) (y : Int64) : Int64 := (y.toUInt64 >>> ((Int32.ofInt (k : Int)).toInt64.toUInt64 &&& Int64.toUInt64 63)).toInt64
def bcI (x : Int64) : Int32 :=
  let a := x - (uR 1 x &&& Int64.ofInt (6148914691236517205))
  let b := (a &&& Int64.ofInt (3689348814741910323)) + (uR 2 a &&& Int64.ofInt (3689348814741910323))
  let c := (b + uR 4 b) &&& Int64.ofInt (1085102592571150095)
  let d := c + uR 8 c
  let e := d + uR 16 d
  let f := e + uR 32 e
  f.toInt32 &&& Int32.ofInt ((127 : Nat) : Int)
def nL (y : Int64) : Nat := y.toBitVec.toNat
theorem nL_lt (y : Int64) : nL y < 18446744073709551616 := y.toBitVec.isLt
theorem nL_u {k : Nat} {y : Int64} (hk : k < 64) : nL (uR k y) = nL y / 2 ^ k := by
  unfold uR nL
  rw [oi_nat]
  show (y.toUInt64 >>> ((Int32.ofNat k).toInt64.toUInt64 &&& Int64.toUInt64 63)).toBitVec.toNat = _
  rw [UInt64.toBitVec_shiftRight]
  show (y.toUInt64.toBitVec >>> (((Int32.ofNat k).toInt64.toUInt64 &&& Int64.toUInt64 63).toBitVec % 64).toNat).toNat = _
  rw [show (((Int32.ofNat k).toInt64.toUInt64 &&& Int64.toUInt64 63).toBitVec % 64).toNat = k from by
    rw [BitVec.toNat_umod]
    exact shu_e k hk, BitVec.toNat_ushiftRight, Nat.shiftRight_eq_div_pow]
  rfl
theorem nL_and {y z : Int64} : nL (y &&& z) = nL y &&& nL z := by unfold nL; rw [Int64.toBitVec_and, BitVec.toNat_and]
theorem nL_add {y z : Int64} (h : nL y + nL z < 18446744073709551616) : nL (y + z) = nL y + nL z := by
  unfold nL at *
  rw [Int64.toBitVec_add, BitVec.toNat_add]
  exact Nat.mod_eq_of_lt h
theorem nL_sub {y z : Int64} (h : nL z ≤ nL y) : nL (y - z) = nL y - nL z := by
  have h1 := nL_lt y
  unfold nL at *
  rw [Int64.toBitVec_sub, BitVec.toNat_sub]
  have h2 := z.toBitVec.isLt
  omega
theorem mk85 : nL (Int64.ofInt (6148914691236517205)) = mk8 85 8 := by decide +kernel
theorem mk51 : nL (Int64.ofInt (3689348814741910323)) = mk8 51 8 := by decide +kernel
theorem mk15 : nL (Int64.ofInt (1085102592571150095)) = mk8 15 8 := by decide +kernel
theorem mk51n : mk8 51 8 = 3689348814741910323 := by decide
theorem lb_t (x : Int64) (i : Nat) : lb x i = (nL x).testBit i := rfl
theorem p1_8 {y m : Nat} (h : (y &&& m) + (y / 4 &&& m) = f2 8 y) (hm : m = 3689348814741910323) : f2 8 y ≤ 7378697629483820646 := by
  have h1 : y &&& m ≤ m := Nat.and_le_right
  have h2 : y / 4 &&& m ≤ m := Nat.and_le_right
  omega
theorem bcI_eq (x : Int64) : bcI x = Int32.ofInt ((cb (lb x) 64 : Nat) : Int) := by
  have hc : cb (lb x) 64 = sd8 8 (nL x) := (cb_cong (fun i _ => lb_t x i)).trans (cb_sd 8 (nL x))
  rw [hc]
  unfold bcI
  dsimp only
  obtain ⟨a, ha⟩ : ∃ a, a = x - (uR 1 x &&& Int64.ofInt (6148914691236517205)) := ⟨_, rfl⟩
  rw [← ha]
  obtain ⟨b, hb⟩ : ∃ b, b = (a &&& Int64.ofInt (3689348814741910323)) + (uR 2 a &&& Int64.ofInt (3689348814741910323)) := ⟨_, rfl⟩
  rw [← hb]
  obtain ⟨c, hcc⟩ : ∃ c, c = (b + uR 4 b) &&& Int64.ofInt (1085102592571150095) := ⟨_, rfl⟩
  rw [← hcc]
  obtain ⟨d, hd⟩ : ∃ d, d = c + uR 8 c := ⟨_, rfl⟩
  rw [← hd]
  obtain ⟨e, he⟩ : ∃ e, e = d + uR 16 d := ⟨_, rfl⟩
  rw [← he]
  obtain ⟨f, hf⟩ : ∃ f, f = e + uR 32 e := ⟨_, rfl⟩
  rw [← hf]
  have na : nL a = f1 8 (nL x) := by
    have h1 : nL (uR 1 x &&& Int64.ofInt (6148914691236517205)) = nL x / 2 &&& mk8 85 8 := by rw [nL_and, nL_u (by decide), mk85]
    have h2 : nL x / 2 &&& mk8 85 8 ≤ nL x := Nat.le_trans Nat.and_le_left (Nat.div_le_self _ _)
    rw [ha, nL_sub (by rw [h1]; exact h2), h1]; rfl
  have nb : nL b = f2 8 (nL a) ∧ nL b ≤ 7378697629483820646 := by
    have h1 : nL (a &&& Int64.ofInt (3689348814741910323)) = nL a &&& mk8 51 8 := by rw [nL_and, mk51]
    have h2 : nL (uR 2 a &&& Int64.ofInt (3689348814741910323)) = nL a / 4 &&& mk8 51 8 := by rw [nL_and, nL_u (by decide), mk51]
    have h3 := p1_8 (y := nL a) (m := mk8 51 8) rfl mk51n
    have h4 : nL b = f2 8 (nL a) := by
      rw [hb, nL_add (by rw [h1, h2]; exact Nat.lt_of_le_of_lt h3 (by decide)), h1, h2]; rfl
    exact ⟨h4, by rw [h4]; exact h3⟩
  have nc : nL c = pcR 8 (nL x) := by
    have h1 : nL (uR 4 b) = nL b / 16 := nL_u (by decide)
    have h2 : nL b + nL (uR 4 b) < 18446744073709551616 := by have := nb.2; omega
    rw [hcc, nL_and, nL_add h2, h1, mk15, nb.1, na]
    exact (f12 (k := 8) (Nat.lt_of_lt_of_le (nL_lt x) (by decide))).2
  obtain ⟨n4, n5, n6, q4, q5, q6, l4, l5, l6, q⟩ := hsum (pcB_le (nL x % 256)) (pcB_le (nL x / 256 % 256)) (pcB_le (nL x / 256 / 256 % 256)) (pcB_le (nL x / 256 / 256 / 256 % 256)) (pcB_le (nL x / 256 / 256 / 256 / 256 % 256)) (pcB_le (nL x / 256 / 256 / 256 / 256 / 256 % 256)) (pcB_le (nL x / 256 / 256 / 256 / 256 / 256 / 256 % 256)) (pcB_le (nL x / 256 / 256 / 256 / 256 / 256 / 256 / 256 % 256)) (n := pcR 8 (nL x)) rfl rfl rfl rfl rfl rfl rfl rfl
  have nd : nL d = n4 := by
    have h1 : nL (uR 8 c) = nL c / 256 := nL_u (by decide)
    rw [hd, nL_add (by rw [h1, nc, ← q4]; exact l4), h1, nc, q4]
  have ne : nL e = n5 := by
    have h1 : nL (uR 16 d) = nL d / 65536 := nL_u (by decide)
    rw [he, nL_add (by rw [h1, nd, ← q5]; exact l5), h1, nd, q5]
  have nf : nL f = n6 := by
    have h1 : nL (uR 32 e) = nL e / 4294967296 := nL_u (by decide)
    rw [hf, nL_add (by rw [h1, ne, ← q6]; exact l6), h1, ne, q6]
  have hs : sd8 8 (nL x) = n6 % 128 := by
    rw [q]
    show pcB _ + (pcB _ + (pcB _ + (pcB _ + (pcB _ + (pcB _ + (pcB _ + (pcB _ + 0))))))) = _
    omega
  rw [hs, ← nf, oi_nat, oi_nat]
  apply Int32.toBitVec_inj.mp
  rw [Int32.toBitVec_and]
  apply BitVec.eq_of_toNat_eq
  rw [BitVec.toNat_and]
  show ((f.toBitVec.signExtend 32).toNat &&& (BitVec.ofNat 32 127).toNat) = (BitVec.ofNat 32 (f.toBitVec.toNat % 128)).toNat
  have h1 : (f.toBitVec.signExtend 32).toNat = f.toBitVec.toNat % 4294967296 := by
    rw [BitVec.signExtend_eq_setWidth_of_le _ (by decide), BitVec.toNat_setWidth]
  rw [h1, BitVec.toNat_ofNat, BitVec.toNat_ofNat, show 127 % 2 ^ 32 = 2 ^ 7 - 1 from rfl, Nat.and_two_pow_sub_one_eq_mod]
  omega
end CN2
