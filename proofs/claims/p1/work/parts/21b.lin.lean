section LN1
/-! words of bits that are linear in the sixteen bits of one number: 32 blocks of 17 bits, block i says which bits (and the bit 16, which is 1) are added up for the bit i -/
def par17 : Nat → Nat → Bool
  | 0, _ => false
  | n + 1, x => Bool.xor (Nat.testBit x n) (par17 n x)
theorem par17_xor {x y : Nat} : ∀ {n : Nat}, par17 n (x ^^^ y) = Bool.xor (par17 n x) (par17 n y) := by
  intro n
  induction n with
  | zero => rfl
  | succ n ih =>
    unfold par17
    rw [Nat.testBit_xor, ih]
    cases Nat.testBit x n <;> cases Nat.testBit y n <;> cases par17 n x <;> cases par17 n y <;> rfl
theorem par17_zero : ∀ {n : Nat}, par17 n 0 = false := by
  intro n
  induction n with
  | zero => rfl
  | succ n ih => unfold par17; rw [Nat.zero_testBit, ih]; rfl
def lblk (code i : Nat) : Nat := (code >>> (17 * i)) % 131072
def lbit (code t i : Nat) : Bool := par17 17 (lblk code i &&& (t ||| 65536))
theorem lblk_xor {a b i : Nat} : lblk (a ^^^ b) i = lblk a i ^^^ lblk b i := by
  unfold lblk
  apply Nat.eq_of_testBit_eq
  intro j
  rw [show (131072 : Nat) = 2 ^ 17 from rfl]
  simp only [Nat.testBit_xor, Nat.testBit_mod_two_pow, Nat.testBit_shiftRight]
  cases decide (j < 17) <;> simp
theorem lbit_xor {a b t i : Nat} : lbit (a ^^^ b) t i = Bool.xor (lbit a t i) (lbit b t i) := by
  unfold lbit
  rw [lblk_xor, Nat.and_xor_distrib_right, par17_xor]
theorem lbit_zero {a t i : Nat} (h : lblk a i = 0) : lbit a t i = false := by
  unfold lbit
  rw [h, Nat.zero_and, par17_zero]
def lnat (code t : Nat) : Nat → Nat
  | 0 => 0
  | n + 1 => lnat code t n ||| (if lbit code t n then 2 ^ n else 0)
theorem lnat_bit {code t i : Nat} : ∀ {n : Nat}, Nat.testBit (lnat code t n) i = (decide (i < n) && lbit code t i) := by
  intro n
  induction n with
  | zero => simp [lnat]
  | succ n ih =>
    unfold lnat
    rw [Nat.testBit_or, ih]
    by_cases h : i = n
    · subst h
      cases hb : lbit code t i <;> simp
    · have e : Nat.testBit (if lbit code t n then 2 ^ n else 0) i = false := by
        split
        · rw [Nat.testBit_two_pow]; simp; omega
        · exact Nat.zero_testBit i
      rw [e, Bool.or_false]
      have : decide (i < n + 1) = decide (i < n) := by
        rw [decide_eq_decide]; omega
      rw [this]
def evB (code t : Nat) : BitVec 32 := BitVec.ofNat 32 (lnat code t 32)
theorem evB_bit {code t i : Nat} : (evB code t).getLsbD i = (decide (i < 32) && lbit code t i) := by
  unfold evB
  rw [BitVec.getLsbD_ofNat, lnat_bit]
  cases decide (i < 32) <;> rfl
def evL (code t : Nat) : Int32 := Int32.ofBitVec (evB code t)
theorem evL_bv {code t : Nat} : (evL code t).toBitVec = evB code t := rfl
theorem evL_eq {code t : Nat} {x : Int32} (h : ∀ i, i < 32 → x.toBitVec.getLsbD i = lbit code t i) : evL code t = x := by
  apply Int32.toBitVec_inj.mp
  rw [evL_bv]
  apply BitVec.eq_of_getLsbD_eq
  intro i hi
  rw [evB_bit, h i hi]
  simp [hi]
-- ===== and with a number: the blocks of its bits =====
def lmsk (c : Int32) : Nat → Nat
  | 0 => 0
  | n + 1 => lmsk c n ||| (if c.toBitVec.getLsbD n then 131071 <<< (17 * n) else 0)
theorem lmsk_bit {c : Int32} {j : Nat} : ∀ {n : Nat}, Nat.testBit (lmsk c n) j = (decide (j / 17 < n) && c.toBitVec.getLsbD (j / 17)) := by
  intro n
  induction n with
  | zero => simp [lmsk]
  | succ n ih =>
    unfold lmsk
    rw [Nat.testBit_or, ih]
    by_cases h : j / 17 = n
    · have e1 : decide (j / 17 < n) = false := by simp; omega
      have e2 : decide (j / 17 < n + 1) = true := by simp; omega
      rw [e1, e2, h, Bool.false_and, Bool.false_or, Bool.true_and]
      split
      · rename_i hc
        rw [hc, Nat.testBit_shiftLeft, show (131071 : Nat) = 2 ^ 17 - 1 from rfl, Nat.testBit_two_pow_sub_one]
        simp; omega
      · rename_i hc
        rw [Nat.zero_testBit]; simp at hc; exact hc.symm
    · have e : Nat.testBit (if c.toBitVec.getLsbD n then 131071 <<< (17 * n) else 0) j = false := by
        split
        · rw [Nat.testBit_shiftLeft, show (131071 : Nat) = 2 ^ 17 - 1 from rfl, Nat.testBit_two_pow_sub_one]
          simp; omega
        · exact Nat.zero_testBit j
      rw [e, Bool.or_false]
      have : decide (j / 17 < n + 1) = decide (j / 17 < n) := by
        rw [decide_eq_decide]; omega
      rw [this]
theorem lblk_msk {code i : Nat} {c : Int32} (hi : i < 32) : lblk (code &&& lmsk c 32) i = if c.toBitVec.getLsbD i then lblk code i else 0 := by
  unfold lblk
  apply Nat.eq_of_testBit_eq
  intro j
  rw [show (131072 : Nat) = 2 ^ 17 from rfl, Nat.testBit_mod_two_pow, Nat.testBit_shiftRight, Nat.testBit_and, lmsk_bit]
  by_cases hj : j < 17
  · have e : (17 * i + j) / 17 = i := by omega
    rw [e]
    cases hc : c.toBitVec.getLsbD i
    · simp
    · rw [if_pos rfl, Nat.testBit_mod_two_pow, Nat.testBit_shiftRight]
      simp [hj, hi]
  · cases hc : c.toBitVec.getLsbD i
    · simp [hj]
    · rw [if_pos rfl, Nat.testBit_mod_two_pow]
      simp [hj]
theorem evL_and {code t : Nat} {c : Int32} : evL (code &&& lmsk c 32) t = evL code t &&& c := by
  apply evL_eq
  intro i hi
  rw [show (evL code t &&& c).toBitVec = (evL code t).toBitVec &&& c.toBitVec from rfl, BitVec.getLsbD_and, evL_bv, evB_bit]
  unfold lbit
  rw [lblk_msk hi]
  cases hc : c.toBitVec.getLsbD i
  · simp [par17_zero]
  · simp [hi]
-- ===== numbers as such words =====
def lcon (c : Int32) : Nat → Nat
  | 0 => 0
  | n + 1 => lcon c n ||| (if c.toBitVec.getLsbD n then 65536 <<< (17 * n) else 0)
theorem lcon_bit {c : Int32} {j : Nat} : ∀ {n : Nat}, Nat.testBit (lcon c n) j = (decide (j / 17 < n) && decide (j % 17 = 16) && c.toBitVec.getLsbD (j / 17)) := by
  intro n
  induction n with
  | zero => simp [lcon]
  | succ n ih =>
    unfold lcon
    rw [Nat.testBit_or, ih]
    have e3 : Nat.testBit (65536 <<< (17 * n)) j = decide (j = 17 * n + 16) := by
      rw [Nat.testBit_shiftLeft, show (65536 : Nat) = 2 ^ 16 from rfl, Nat.testBit_two_pow]
      by_cases h : j = 17 * n + 16
      · subst h; simp
      · simp [h]; omega
    by_cases h : j / 17 = n
    · have e1 : decide (j / 17 < n) = false := by simp; omega
      have e2 : decide (j / 17 < n + 1) = true := by simp; omega
      have e4 : decide (j = 17 * n + 16) = decide (j % 17 = 16) := by rw [decide_eq_decide]; omega
      rw [e1, e2, h, Bool.false_and, Bool.false_and, Bool.false_or, Bool.true_and]
      split
      · rename_i hc
        rw [e3, e4, hc, Bool.and_true]
      · rename_i hc
        simp at hc
        rw [hc, Nat.zero_testBit, Bool.and_false]
    · have e : Nat.testBit (if c.toBitVec.getLsbD n then 65536 <<< (17 * n) else 0) j = false := by
        split
        · rw [e3]; simp; omega
        · exact Nat.zero_testBit j
      rw [e, Bool.or_false]
      have : decide (j / 17 < n + 1) = decide (j / 17 < n) := by
        rw [decide_eq_decide]; omega
      rw [this]
theorem lblk_con {i : Nat} {c : Int32} (hi : i < 32) : lblk (lcon c 32) i = if c.toBitVec.getLsbD i then 65536 else 0 := by
  unfold lblk
  apply Nat.eq_of_testBit_eq
  intro j
  rw [show (131072 : Nat) = 2 ^ 17 from rfl, Nat.testBit_mod_two_pow, Nat.testBit_shiftRight, lcon_bit]
  by_cases hj : j < 17
  · have e : (17 * i + j) / 17 = i := by omega
    have e1 : (17 * i + j) % 17 = j := by omega
    rw [e, e1]
    cases hc : c.toBitVec.getLsbD i
    · simp
    · rw [if_pos rfl, show (65536 : Nat) = 2 ^ 16 from rfl, Nat.testBit_two_pow]
      simp [hj, hi, eq_comm]
  · cases hc : c.toBitVec.getLsbD i
    · simp [hj]
    · rw [if_pos rfl, show (65536 : Nat) = 2 ^ 16 from rfl, Nat.testBit_two_pow]
      simp [hj]; omega
theorem par17_top {t : Nat} : par17 17 (65536 &&& (t ||| 65536)) = true := by
  have e : 65536 &&& (t ||| 65536) = 65536 := by
    apply Nat.eq_of_testBit_eq
    intro j
    rw [Nat.testBit_and, Nat.testBit_or]
    cases Nat.testBit 65536 j <;> simp
  rw [e]
  rfl
theorem evL_con {t : Nat} {c : Int32} : evL (lcon c 32) t = c := by
  apply evL_eq
  intro i hi
  unfold lbit
  rw [lblk_con hi]
  cases hc : c.toBitVec.getLsbD i
  · simp [par17_zero]
  · rw [if_pos rfl, par17_top]
theorem evL_xor {a b t : Nat} : evL (a ^^^ b) t = evL a t ^^^ evL b t := by
  apply evL_eq
  intro i hi
  rw [show (evL a t ^^^ evL b t).toBitVec = (evL a t).toBitVec ^^^ (evL b t).toBitVec from rfl, BitVec.getLsbD_xor, evL_bv, evL_bv, evB_bit, evB_bit, lbit_xor]
  simp [hi]
/-- nowhere both have something -/
def ldis (a b : Nat) : Nat → Bool
  | 0 => true
  | n + 1 => (Nat.beq (lblk a n) 0 || Nat.beq (lblk b n) 0) && ldis a b n
theorem ldis_at {a b : Nat} : ∀ {n i : Nat}, ldis a b n = true → i < n → lblk a i = 0 ∨ lblk b i = 0 := by
  intro n
  induction n with
  | zero => intro i _ h; omega
  | succ n ih =>
    intro i h hi
    unfold ldis at h
    rw [Bool.and_eq_true, Bool.or_eq_true] at h
    by_cases e : i = n
    · subst e
      rcases h.1 with h | h
      · exact Or.inl (Nat.eq_of_beq_eq_true h)
      · exact Or.inr (Nat.eq_of_beq_eq_true h)
    · exact ih h.2 (by omega)
theorem evL_or {a b t : Nat} (h : ldis a b 32 = true) : evL (a ^^^ b) t = evL a t ||| evL b t := by
  apply evL_eq
  intro i hi
  rw [show (evL a t ||| evL b t).toBitVec = (evL a t).toBitVec ||| (evL b t).toBitVec from rfl, BitVec.getLsbD_or, evL_bv, evL_bv, evB_bit, evB_bit, lbit_xor]
  rcases ldis_at h hi with h | h
  · rw [lbit_zero h]; simp [hi]
  · rw [lbit_zero h]; simp [hi]
-- ===== shifts =====
theorem lblk_shl {code n i : Nat} : lblk (code <<< (17 * n)) i = if i < n then 0 else lblk code (i - n) := by
  unfold lblk
  apply Nat.eq_of_testBit_eq
  intro j
  rw [show (131072 : Nat) = 2 ^ 17 from rfl, Nat.testBit_mod_two_pow, Nat.testBit_shiftRight, Nat.testBit_shiftLeft]
  by_cases hj : j < 17
  · split
    · rename_i h
      have : ¬ (17 * i + j ≥ 17 * n) := by omega
      simp [this]
    · rename_i h
      have e : 17 * i + j - 17 * n = 17 * (i - n) + j := by omega
      rw [Nat.testBit_mod_two_pow, Nat.testBit_shiftRight, e]
      have : 17 * i + j ≥ 17 * n := by omega
      simp [this]
  · simp only [hj, decide_false, Bool.false_and]
    symm
    split
    · exact Nat.zero_testBit j
    · exact Nat.testBit_lt_two_pow (Nat.lt_of_lt_of_le (Nat.mod_lt _ (by decide)) (show 2 ^ 17 ≤ 2 ^ j from Nat.pow_le_pow_right (by decide) (by omega)))
theorem evL_shl {code t n : Nat} {x : Int32} (hx : x.toBitVec = (evB code t) <<< n) : evL (code <<< (17 * n)) t = x := by
  apply evL_eq
  intro i hi
  rw [hx, BitVec.getLsbD_shiftLeft, evB_bit]
  unfold lbit
  rw [lblk_shl]
  by_cases h : i < n
  · simp [h, hi, par17_zero]
  · have : i - n < 32 := by omega
    simp [h, hi, this]
theorem lblk_shr {code n i : Nat} : lblk (code >>> (17 * n)) i = lblk code (i + n) := by
  unfold lblk
  rw [← Nat.shiftRight_add, show 17 * n + 17 * i = 17 * (i + n) by omega]
/-- a code has no blocks behind the last -/
theorem lblk_big {code i : Nat} (h : code < 2 ^ 544) (hi : 32 ≤ i) : lblk code i = 0 := by
  unfold lblk
  have h1 : code >>> (17 * i) = 0 := by
    rw [Nat.shiftRight_eq_div_pow]
    apply Nat.div_eq_of_lt
    exact Nat.lt_of_lt_of_le h (Nat.pow_le_pow_right (by decide) (by omega))
  rw [h1]
theorem evL_shr {code t n : Nat} {x : Int32} (h : code < 2 ^ 544) (hx : x.toBitVec = (evB code t) >>> n) : evL (code >>> (17 * n)) t = x := by
  apply evL_eq
  intro i hi
  rw [hx, BitVec.getLsbD_ushiftRight, evB_bit]
  unfold lbit
  rw [lblk_shr, Nat.add_comm]
  by_cases h9 : n + i < 32
  · simp [h9]
    intro _
    omega
  · rw [show i + n = n + i by omega, lblk_big h (by omega)]
    simp [h9, par17_zero]
theorem shl_amt : ∀ n : Fin 32, ((Int32.ofNat n.val &&& 31).toBitVec.smod 32).toNat = n.val := by decide
theorem ushr_amt : ∀ n : Fin 32, ((Int32.ofNat n.val).toUInt32 &&& Int32.toUInt32 31).toBitVec.toNat % 32 = n.val := by decide
/-- what is pushed: base, twice the code for a word, twice and one for the least of a set -/
def lbase : Nat := 4294967296
def lsym (code : Nat) : Nat := lbase + 2 * code
/-- the code of a number or of such a word -/
def lcode (v : sV) : Option Nat := match v with
  | .inl (.int x) => some (lcon x 32)
  | .inr (false, k) => cond (Nat.ble lbase k && Nat.beq ((k - lbase) % 2) 0) (some ((k - lbase) / 2)) none
  | _ => none
def lsml (v : sV) : Option Nat := match v with
  | .inl (.int x) => cond (decide (x.toNatClampNeg < 32) && decide (Int32.ofNat x.toNatClampNeg = x)) (some x.toNatClampNeg) none
  | _ => none
def lknw (v : sV) : Option Int32 := match v with
  | .inl (.int x) => some x
  | _ => none
def lop (op : Nat) (a b : sV) : Option Nat := match op with
  | 3 => (match lcode a, lknw b with
    | some x, some c => some (lsym (x &&& lmsk c 32))
    | _, _ => none)
  | 4 => (match lcode a, lcode b with
    | some x, some y => cond (ldis x y 32) (some (lsym (x ^^^ y))) none
    | _, _ => none)
  | 5 => (match lcode a, lcode b with
    | some x, some y => some (lsym (x ^^^ y))
    | _, _ => none)
  | 6 => (match lcode a, lsml b with
    | some x, some n => some (lsym ((x <<< (17 * n)) % 2 ^ 544))
    | _, _ => none)
  | 7 => (match lcode a, lsml b with
    | some x, some n => cond (Nat.blt x (2 ^ 527)) (some (lsym (x >>> (17 * n)))) none
    | _, _ => none)
  | 8 => (match lcode a, lsml b with
    | some x, some n => cond (Nat.blt x (2 ^ 544)) (some (lsym (x >>> (17 * n)))) none
    | _, _ => none)
  | _ => none
/-- sets of codes -/
def lB : Nat := 2 ^ 560
def ldec : Nat → Nat → List Nat
  | 0, _ => []
  | n + 1, k => cond (Nat.beq k 0) [] (fN (k % lB - 1) (fun c => fN (k / lB) (fun k1 => c :: ldec n k1)))
def lenc : List Nat → Nat
  | [] => 0
  | c :: l => (c + 1) + lB * lenc l
def lmin (x y : Int32) : Int32 := if y < x then y else x
def evS (t : Nat) : List Nat → Int32
  | [] => 2147483647
  | c :: l => lmin (evL c t) (evS t l)
def evK (t k : Nat) : Int32 := if (k - lbase) % 2 = 0 then evL ((k - lbase) / 2) t else evS t (ldec 2000 ((k - lbase) / 2))
def lset (v : sV) : Option (List Nat) := match v with
  | .inl (.int x) => cond (decide (x = 2147483647)) (some []) none
  | .inr (false, k) => cond (Nat.ble lbase k) (cond (Nat.beq ((k - lbase) % 2) 0) (some [(k - lbase) / 2]) (some (ldec 2000 ((k - lbase) / 2)))) none
  | _ => none
def lmrg : Nat → List Nat → List Nat → List Nat
  | 0, a, b => a ++ b
  | _ + 1, [], b => b
  | _ + 1, x :: a, [] => x :: a
  | n + 1, x :: a, y :: b => cond (Nat.blt x y) (x :: lmrg n a (y :: b)) (cond (Nat.blt y x) (y :: lmrg n (x :: a) b) (x :: lmrg n a b))
theorem lmrg_mem {z : Nat} : ∀ {n : Nat} {a b : List Nat}, z ∈ lmrg n a b ↔ z ∈ a ∨ z ∈ b := by
  intro n
  induction n with
  | zero => intro a b; unfold lmrg; exact List.mem_append
  | succ n ih =>
    intro a b
    cases a with
    | nil => unfold lmrg; simp
    | cons x a =>
      cases b with
      | nil => unfold lmrg; simp
      | cons y b =>
        unfold lmrg
        cases h1 : Nat.blt x y with
        | true => simp only [cond_true, List.mem_cons, ih, or_assoc]
        | false =>
          cases h2 : Nat.blt y x with
          | true =>
            simp only [cond_true, cond_false, List.mem_cons, ih]
            constructor
            · rintro (h | h | h) <;> simp [h]
            · rintro ((h | h) | h | h) <;> simp [h]
          | false =>
            have e : x = y := by
              have h3 : ¬ x < y := fun q => by rw [Nat.blt_eq.mpr q] at h1; cases h1
              have h4 : ¬ y < x := fun q => by rw [Nat.blt_eq.mpr q] at h2; cases h2
              omega
            subst e
            simp only [cond_false, List.mem_cons, ih]
            constructor
            · rintro (h | h | h) <;> simp [h]
            · rintro ((h | h) | h | h) <;> simp [h]
theorem lmin_le {x y : Int32} : (lmin x y).toInt = min x.toInt y.toInt := by
  unfold lmin
  split
  · rename_i h
    have := Int32.lt_iff_toInt_lt.mp h
    omega
  · rename_i h
    have h2 : ¬ y.toInt < x.toInt := fun q => h (Int32.lt_iff_toInt_lt.mpr q)
    omega
theorem evS_le {t : Nat} : ∀ {l : List Nat} {c : Nat}, c ∈ l → (evS t l).toInt ≤ (evL c t).toInt := by
  intro l
  induction l with
  | nil => intro c h; cases h
  | cons d l ih =>
    intro c h
    unfold evS
    rw [lmin_le]
    rcases List.mem_cons.mp h with rfl | h
    · omega
    · have := ih h; omega
theorem evS_at {t : Nat} : ∀ {l : List Nat}, evS t l = 2147483647 ∨ ∃ c, c ∈ l ∧ evS t l = evL c t := by
  intro l
  induction l with
  | nil => exact Or.inl rfl
  | cons d l ih =>
    unfold evS lmin
    split
    · rcases ih with h | ⟨c, h1, h2⟩
      · exact Or.inl h
      · exact Or.inr ⟨c, List.mem_cons_of_mem _ h1, h2⟩
    · exact Or.inr ⟨d, List.mem_cons_self, rfl⟩
theorem evS_top {t : Nat} {l : List Nat} : (evS t l).toInt ≤ 2147483647 := by
  have := (evS t l).toInt_lt
  omega
theorem evS_mrg {t n : Nat} {a b : List Nat} : evS t (lmrg n a b) = lmin (evS t a) (evS t b) := by
  apply Int32.toInt_inj.mp
  rw [lmin_le]
  have ha : (evS t (lmrg n a b)).toInt ≤ (evS t a).toInt := by
    rcases evS_at (t := t) (l := a) with h | ⟨c, h1, h2⟩
    · rw [h]; exact evS_top
    · rw [h2]; exact evS_le (lmrg_mem.mpr (Or.inl h1))
  have hb : (evS t (lmrg n a b)).toInt ≤ (evS t b).toInt := by
    rcases evS_at (t := t) (l := b) with h | ⟨c, h1, h2⟩
    · rw [h]; exact evS_top
    · rw [h2]; exact evS_le (lmrg_mem.mpr (Or.inr h1))
  rcases evS_at (t := t) (l := lmrg n a b) with h | ⟨c, h1, h2⟩
  · have h3 := evS_top (t := t) (l := a)
    have h4 := evS_top (t := t) (l := b)
    rw [h] at ha hb ⊢
    have e : (2147483647 : Int32).toInt = 2147483647 := rfl
    omega
  · rcases lmrg_mem.mp h1 with h1 | h1
    · have := evS_le (t := t) h1; rw [h2]; rw [h2] at ha hb; omega
    · have := evS_le (t := t) h1; rw [h2]; rw [h2] at ha hb; omega
end LN1
