section LN2
variable {ρ : Nat → Int32} {t : Nat}
def lrho (ρ : Nat → Int32) (t : Nat) : Prop := ∀ k, lbase ≤ k → ρ k = evK t k
theorem lsym_ok (h : lrho ρ t) {c : Nat} : ρ (lsym c) = evL c t := by
  rw [h (lsym c) (Nat.le_add_right _ _)]
  unfold evK lsym
  have e1 : lbase + 2 * c - lbase = 2 * c := by omega
  rw [e1, if_pos (by omega), show 2 * c / 2 = c by omega]
theorem lcode_ok (h : lrho ρ t) {v : sV} {c : Nat} (e : lcode v = some c) : sd ρ v = .int (evL c t) := by
  unfold lcode at e
  split at e
  · cases e; rw [evL_con]; rfl
  · obtain ⟨h1, h2⟩ := cond_some e
    cases h2
    rw [Bool.and_eq_true] at h1
    show Value.int (ρ _) = _
    rw [h _ (Nat.le_of_ble_eq_true h1.1)]
    unfold evK
    rw [if_pos (Nat.eq_of_beq_eq_true h1.2)]
  · cases e
theorem lsml_ok {v : sV} {n : Nat} (e : lsml v = some n) : sd ρ v = .int (Int32.ofNat n) ∧ n < 32 := by
  unfold lsml at e
  split at e
  · obtain ⟨h1, h2⟩ := cond_some e
    cases h2
    rw [Bool.and_eq_true] at h1
    refine ⟨?_, of_decide_eq_true h1.1⟩
    rw [of_decide_eq_true h1.2]; rfl
  · cases e
theorem lknw_ok {v : sV} {c : Int32} (e : lknw v = some c) : sd ρ v = .int c := by
  unfold lknw at e
  split at e
  · cases e; rfl
  · cases e
theorem shl_amt2 : ∀ n : Fin 32, ((Int32.ofNat n.val &&& 31).toBitVec.smod 32).toNat = n.val := by decide
theorem ushr_amt2 : ∀ n : Fin 32, (UInt32.mod ((Int32.ofNat n.val).toUInt32 &&& Int32.toUInt32 31) 32).toBitVec.toNat = n.val := by decide
theorem sh6 {x : Int32} {n : Nat} (h : n < 32) : (sbin 6 x (Int32.ofNat n)).toBitVec = x.toBitVec <<< n := by
  show x.toBitVec <<< ((Int32.ofNat n &&& 31).toBitVec.smod 32) = _
  rw [BitVec.shiftLeft_eq', shl_amt2 ⟨n, h⟩]
theorem sh7 {x : Int32} {n : Nat} (h : n < 32) (hx : x.toBitVec.msb = false) : (sbin 7 x (Int32.ofNat n)).toBitVec = x.toBitVec >>> n := by
  show BitVec.sshiftRight' x.toBitVec ((Int32.ofNat n &&& 31).toBitVec.smod 32) = _
  unfold BitVec.sshiftRight'
  rw [shl_amt2 ⟨n, h⟩, BitVec.sshiftRight_eq_of_msb_false hx]
theorem sh8 {x : Int32} {n : Nat} (h : n < 32) : (sbin 8 x (Int32.ofNat n)).toBitVec = x.toBitVec >>> n := by
  show x.toBitVec >>> (UInt32.mod ((Int32.ofNat n).toUInt32 &&& Int32.toUInt32 31) 32).toBitVec = _
  rw [BitVec.ushiftRight_eq', ushr_amt2 ⟨n, h⟩]
theorem lblk_mod {c i : Nat} (hi : i < 32) : lblk (c % 2 ^ 544) i = lblk c i := by
  unfold lblk
  apply Nat.eq_of_testBit_eq
  intro j
  rw [show (131072 : Nat) = 2 ^ 17 from rfl, Nat.testBit_mod_two_pow, Nat.testBit_mod_two_pow, Nat.testBit_shiftRight, Nat.testBit_shiftRight, Nat.testBit_mod_two_pow]
  by_cases hj : j < 17
  · have : 17 * i + j < 544 := by omega
    simp [this]
  · simp [hj]
theorem evL_mod {c : Nat} : evL (c % 2 ^ 544) t = evL c t := by
  apply evL_eq
  intro i hi
  rw [evL_bv, evB_bit]
  unfold lbit
  rw [lblk_mod hi]
  simp [hi]
theorem evB_msb {c : Nat} (h : c < 2 ^ 527) : (evB c t).msb = false := by
  rw [BitVec.msb_eq_getLsbD_last, evB_bit]
  have : lblk c 31 = 0 := by
    unfold lblk
    have h1 : c >>> (17 * 31) = 0 := by
      rw [Nat.shiftRight_eq_div_pow]
      exact Nat.div_eq_of_lt h
    rw [h1]
  show (decide (31 < 32) && lbit c t 31) = false
  rw [lbit_zero this]; rfl
theorem lop_ok (h : lrho ρ t) {op : Nat} {a b : sV} {k : Nat} (e : lop op a b = some k) : ∃ x y, sd ρ a = .int x ∧ sd ρ b = .int y ∧ ρ k = sbin op x y := by
  unfold lop at e
  split at e
  · split at e
    · rename_i x c hx hc
      cases e
      refine ⟨_, _, lcode_ok h hx, lknw_ok hc, ?_⟩
      rw [lsym_ok h, evL_and]; rfl
    · cases e
  · split at e
    · rename_i x y hx hy
      obtain ⟨h1, h2⟩ := cond_some e
      cases h2
      refine ⟨_, _, lcode_ok h hx, lcode_ok h hy, ?_⟩
      rw [lsym_ok h, evL_or h1]; rfl
    · cases e
  · split at e
    · rename_i x y hx hy
      cases e
      refine ⟨_, _, lcode_ok h hx, lcode_ok h hy, ?_⟩
      rw [lsym_ok h, evL_xor]; rfl
    · cases e
  · split at e
    · rename_i x n hx hn
      cases e
      obtain ⟨h1, h2⟩ := lsml_ok (ρ := ρ) hn
      refine ⟨_, _, lcode_ok h hx, h1, ?_⟩
      rw [lsym_ok h, evL_mod]
      exact evL_shl (sh6 h2)
    · cases e
  · split at e
    · rename_i x n hx hn
      obtain ⟨h3, h4⟩ := cond_some e
      cases h4
      have h5 := Nat.blt_eq.mp h3
      obtain ⟨h1, h2⟩ := lsml_ok (ρ := ρ) hn
      refine ⟨_, _, lcode_ok h hx, h1, ?_⟩
      rw [lsym_ok h]
      exact evL_shr (Nat.lt_of_lt_of_le h5 (Nat.pow_le_pow_right (by decide) (by decide))) (sh7 h2 (evB_msb h5))
    · cases e
  · split at e
    · rename_i x n hx hn
      obtain ⟨h3, h4⟩ := cond_some e
      cases h4
      have h5 := Nat.blt_eq.mp h3
      obtain ⟨h1, h2⟩ := lsml_ok (ρ := ρ) hn
      refine ⟨_, _, lcode_ok h hx, h1, ?_⟩
      rw [lsym_ok h]
      exact evL_shr h5 (sh8 h2)
    · cases e
  · cases e
theorem lmin_top {x : Int32} : lmin x 2147483647 = x := by
  unfold lmin
  rw [if_neg]
  intro q
  have h1 := Int32.lt_iff_toInt_lt.mp q
  have h2 := x.toInt_lt
  have e : (2147483647 : Int32).toInt = 2147483647 := rfl
  omega
theorem lset_ok (h : lrho ρ t) {v : sV} {l : List Nat} (e : lset v = some l) : sd ρ v = .int (evS t l) := by
  unfold lset at e
  split at e
  · obtain ⟨h1, h2⟩ := cond_some e
    cases h2
    cases of_decide_eq_true h1
    rfl
  · rename_i k
    obtain ⟨h1, h2⟩ := cond_some e
    show Value.int (ρ _) = _
    rw [h _ (Nat.le_of_ble_eq_true h1)]
    unfold evK
    cases h3 : Nat.beq ((k - lbase) % 2) 0 with
    | true =>
      rw [h3] at h2
      cases h2
      rw [if_pos (Nat.eq_of_beq_eq_true h3)]
      show _ = Value.int (lmin (evL _ t) 2147483647)
      rw [lmin_top]
    | false =>
      rw [h3] at h2
      cases h2
      rw [if_neg (Nat.ne_of_beq_eq_false h3)]
  · cases e
def lres (l : List Nat) : Option Nat := cond (decide (ldec 2000 (lenc l) = l)) (some (lbase + 2 * lenc l + 1)) none
theorem lres_ok (h : lrho ρ t) {l : List Nat} {k : Nat} (e : lres l = some k) : ρ k = evS t l := by
  unfold lres at e
  obtain ⟨h1, h2⟩ := cond_some e
  cases h2
  rw [h _ (by omega)]
  unfold evK
  have e1 : lbase + 2 * lenc l + 1 - lbase = 2 * lenc l + 1 := by omega
  rw [e1, if_neg (by omega), show (2 * lenc l + 1) / 2 = lenc l by omega, of_decide_eq_true h1]
end LN2
section LN3
variable {TT : List Cond} {cl : List vw_C} {X : XT} {mis : Nat → MI} {en : Nat → String} {ρ : Nat → Int32} {m pc nx t : Nat}
/-- Math.min of numbers or of such words -/
def oMin (m nx : Nat) : Op := fun rec d G L S M => match S with
  | b :: a :: S1 => cond (Nat.ble ((S1.map scat).sum) 900) (match a, b with
    | .inl (.int x), .inl (.int y) => fI (if y < x then y else x) (fun z => rec d m G nx L (.inl (.int z) :: S1) M)
    | a, b => (match lset a, lset b with
      | some la, some lb => fS (lmrg 5000 la lb) (fun l => match lres l with
        | some k => fN k (fun k => rec d m G nx L (.inr (false, k) :: S1) M)
        | none => none)
      | _, _ => none)) none
  | _ => none
theorem oMin_ok {index : Nat} (h : lrho ρ t) (d : decode (mis m).2.1 pc = .ok (.invokestatic index, 3)) (hl : Cond.methodLink (mis m).1.cls index Lib.Math.min.name ∈ TT) (hs : Cond.static Lib.Math.min.name ∈ TT) (hi : Cond.initialized "java/lang/Math" ∈ TT) (hc : Cond.code Lib.Math.min.name Lib.Math.min.code 2 (some .int) ∈ TT) (hn : pc + 3 = nx) : opOK TT cl X mis en ρ m pc (oMin m nx) := by
  intro rec hr dd G L S M r e hG P PX hall
  subst hn
  unfold oMin at e
  split at e
  · obtain ⟨e2, e3⟩ := cond_some e
    have h2 := Nat.le_of_ble_eq_true e2
    have hlo : ∀ S1 : List sV, (S1.map scat).sum ≤ 900 → ((sdS ρ S1).map fun v => v.category).sum + 13 ≤ 1000 + 200 * dd := fun S1 q => by rw [sdS_sum]; omega
    split at e3
    · rw [fI_eq] at e3
      exact lx_mmin d hl hs hi hc ⟨by omega, hlo _ h2⟩ (hr _ _ _ _ _ _ _ _ e3 hG P PX hall)
    · split at e3
      · rename_i la lb hla hlb
        rw [fS_eq] at e3
        split at e3
        · rename_i k hk
          rw [fN_eq] at e3
          have h5 := lset_ok h hla
          have h6 := lset_ok h hlb
          have e9 : ∀ S1 : List sV, sdS ρ (_ :: _ :: S1) = .int (evS t lb) :: .int (evS t la) :: sdS ρ S1 := fun S1 => by rw [← h5, ← h6]; rfl
          have e8 : ∀ S1 : List sV, sdS ρ (.inr (false, k) :: S1) = .int (lmin (evS t la) (evS t lb)) :: sdS ρ S1 := fun S1 => by
            rw [← evS_mrg (n := 5000), ← lres_ok h hk]; rfl
          have k1 := hr _ _ _ _ _ _ _ _ e3 hG P PX hall
          rw [e8] at k1
          rw [e9]
          exact lx_mmin d hl hs hi hc ⟨by omega, hlo _ h2⟩ k1
        · cases e3
      · cases e3
  · cases e
def oL2i (m nx : Nat) : Op := fun rec d G L S M => match S with
  | .inl (.long x) :: S1 => fI x.toInt32 (fun z => rec d m G nx L (.inl (.int z) :: S1) M)
  | _ => none
theorem oL2i_ok (d : decode (mis m).2.1 pc = .ok (.l2i, 1)) (hn : pc + 1 = nx) : opOK TT cl X mis en ρ m pc (oL2i m nx) := by
  intro rec hr dd G L S M r e hG P PX hall
  subst hn
  unfold oL2i at e
  split at e
  · rw [fI_eq] at e
    exact lx_l2i d (hr _ _ _ _ _ _ _ _ e hG P PX hall)
  · cases e
def hhv : Nat → Int64 := fun j => match j with
  | 0 => -6148914691236517206
  | 1 => -3689348814741910324
  | 2 => -1085102592571150096
  | 3 => -71777214294589696
  | 4 => -281470681808896
  | _ => -4294967296
/-- a long of the known row 2 -/
def oLaldH (m nx : Nat) : Op := fun rec d G L S M => match S with
  | .inl (.int x) :: .inl (.retAddr k) :: S1 => cond (svin x 6 && Nat.beq k 2) (rec d m G nx L (.inl (.long (hhv x.toNatClampNeg)) :: S1) M) none
  | _ => none
theorem oLaldH_ok (hX : mj_XA X 2 .long 6 (fun j => .long (hhv j))) (d : decode (mis m).2.1 pc = .ok (.laload, 1)) (hn : pc + 1 = nx) : opOK TT cl X mis en ρ m pc (oLaldH m nx) := by
  intro rec hr dd G L S M r e hG P PX hall
  subst hn
  unfold oLaldH at e
  split at e
  · obtain ⟨e2, e3⟩ := cond_some e
    rw [Bool.and_eq_true] at e2
    cases Nat.eq_of_beq_eq_true e2.2
    exact lx_slaload d (by decide) hX (svin_ok e2.1) rfl (hr _ _ _ _ _ _ _ _ e3 hG P PX hall)
  · cases e
-- ===== the number itself as such a word =====
def lE : Nat → Nat
  | 0 => 0
  | n + 1 => lE n ||| (1 <<< (18 * n))
theorem par17_one {z : Nat} : ∀ i : Fin 17, par17 17 (2 ^ i.val &&& z) = Nat.testBit z i.val := by
  intro i
  have e : 2 ^ i.val &&& z = if Nat.testBit z i.val then 2 ^ i.val else 0 := by
    apply Nat.eq_of_testBit_eq
    intro j
    rw [Nat.testBit_and, Nat.testBit_two_pow]
    by_cases h : i.val = j
    · subst h
      cases hb : Nat.testBit z i.val
      · simp
      · rw [if_pos rfl, Nat.testBit_two_pow]; simp
    · have h1 : decide (i.val = j) = false := by simp [h]
      rw [h1, Bool.false_and]
      split
      · rw [Nat.testBit_two_pow]; simp [h]
      · exact (Nat.zero_testBit j).symm
  rw [e]
  cases hb : Nat.testBit z i.val
  · exact par17_zero
  · rw [if_pos rfl]
    have : ∀ i : Fin 17, par17 17 (2 ^ i.val) = true := by decide
    exact this i
theorem lE_blk : ∀ q ∈ [2, 4, 8, 16], ∀ i : Fin 32, lblk (lE q) i.val = if i.val < q then 2 ^ i.val else 0 := by decide +kernel
theorem evL_E {n t : Nat} {x : Int32} (hn : n ∈ [2, 4, 8, 16]) (h0 : 0 ≤ x.toInt) (h1 : x.toInt ≤ 2 ^ n - 1) (ht : t = x.toUInt32.toNat % 65536) : evL (lE n) t = x := by
  have hn16 : n ≤ 16 := by
    simp at hn; omega
  have hp : (2 : Int) ^ n ≤ 2 ^ 16 := by
    simp at hn
    rcases hn with rfl | rfl | rfl | rfl <;> decide
  have e0 : x.toInt = (x.toBitVec.toNat : Int) := by
    have h2 : x.toInt = x.toBitVec.toInt := rfl
    rw [h2, BitVec.toInt_eq_toNat_cond] at h0 h1 ⊢
    have := x.toBitVec.isLt
    split <;> rename_i h3
    · rfl
    · rw [if_neg h3] at h0
      omega
  have e1 : x.toUInt32.toNat = x.toBitVec.toNat := rfl
  have hx16 : x.toBitVec.toNat < 2 ^ n := by
    rw [e0] at h1
    have : ((2 ^ n : Nat) : Int) = (2 : Int) ^ n := by
      rw [Int.natCast_pow]; rfl
    omega
  have hx17 : x.toBitVec.toNat < 65536 := by
    rw [e0] at h1
    have : (2 : Int) ^ 16 = 65536 := rfl
    omega
  have et : t = x.toBitVec.toNat := by
    rw [ht, e1, Nat.mod_eq_of_lt hx17]
  apply evL_eq
  intro i hi
  unfold lbit
  rw [lE_blk n hn ⟨i, hi⟩]
  show x.toBitVec.toNat.testBit i = _
  rw [← et]
  by_cases h : i < n
  · show _ = par17 17 ((if i < n then 2 ^ i else 0) &&& _)
    rw [if_pos h, par17_one ⟨i, by omega⟩]
    rw [Nat.testBit_or, show (65536 : Nat) = 2 ^ 16 from rfl, Nat.testBit_two_pow]
    have : decide (16 = i) = false := by simp; omega
    rw [this, Bool.or_false]
  · show _ = par17 17 ((if i < n then 2 ^ i else 0) &&& _)
    rw [if_neg h, Nat.zero_and, par17_zero]
    rw [et]
    exact Nat.testBit_lt_two_pow (Nat.lt_of_lt_of_le hx16 (Nat.pow_le_pow_right (by decide) (by omega)))
end LN3
