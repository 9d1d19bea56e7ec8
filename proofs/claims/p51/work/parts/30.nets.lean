section NT1
variable {X : XT} {L9 : Nat} {xs : Nat → Int32} {sh : sM} {I : mI} {J : mJ}

def clN (sh : sM) : Prop := sh 1 = some (.inr (1, [.ref 3, .ref 4, .ref 5, .ref 6, .ref 7, .ref 8, .ref 9, .ref 10, .ref 11, .ref 12, .ref 13, .int 0, .int 0])) ∧ sh 3 = some (.inl (.char, 80, 0, fun _ => none)) ∧ sh 4 = some (.inl (.int, 80, 0, fun _ => none)) ∧ sh 5 = some (.inl (.int, 80, 0, fun _ => none)) ∧ sh 6 = some (.inl (.int, 80, 0, fun _ => none)) ∧ sh 7 = some (.inl (.int, 80, 0, fun _ => none)) ∧ sh 8 = some (.inl (.int, 80, 0, fun _ => none)) ∧ sh 9 = some (.inl (.int, 8, 0, fun _ => none)) ∧ sh 10 = some (.inl (.int, 2, 0, fun _ => none)) ∧ sh 11 = some (.inl (.int, 2, 0, fun _ => none)) ∧ sh 12 = some (.inl (.int, 14, 0, fun _ => none)) ∧ sh 13 = some (.inl (.int, 80, 0, fun _ => none))
theorem c_1 {sh : sM} (h : clN sh) : sh 1 = some (.inr (1, [.ref 3, .ref 4, .ref 5, .ref 6, .ref 7, .ref 8, .ref 9, .ref 10, .ref 11, .ref 12, .ref 13, .int 0, .int 0])) := h.1
theorem c_3 {sh : sM} (h : clN sh) : sh 3 = some (.inl (.char, 80, 0, fun _ => none)) := h.2.1
theorem c_4 {sh : sM} (h : clN sh) : sh 4 = some (.inl (.int, 80, 0, fun _ => none)) := h.2.2.1
theorem c_5 {sh : sM} (h : clN sh) : sh 5 = some (.inl (.int, 80, 0, fun _ => none)) := h.2.2.2.1
theorem c_6 {sh : sM} (h : clN sh) : sh 6 = some (.inl (.int, 80, 0, fun _ => none)) := h.2.2.2.2.1
theorem c_7 {sh : sM} (h : clN sh) : sh 7 = some (.inl (.int, 80, 0, fun _ => none)) := h.2.2.2.2.2.1
theorem c_8 {sh : sM} (h : clN sh) : sh 8 = some (.inl (.int, 80, 0, fun _ => none)) := h.2.2.2.2.2.2.1
theorem c_9 {sh : sM} (h : clN sh) : sh 9 = some (.inl (.int, 8, 0, fun _ => none)) := h.2.2.2.2.2.2.2.1
theorem c_10 {sh : sM} (h : clN sh) : sh 10 = some (.inl (.int, 2, 0, fun _ => none)) := h.2.2.2.2.2.2.2.2.1
theorem c_11 {sh : sM} (h : clN sh) : sh 11 = some (.inl (.int, 2, 0, fun _ => none)) := h.2.2.2.2.2.2.2.2.2.1
theorem c_12 {sh : sM} (h : clN sh) : sh 12 = some (.inl (.int, 14, 0, fun _ => none)) := h.2.2.2.2.2.2.2.2.2.2.1
theorem c_13 {sh : sM} (h : clN sh) : sh 13 = some (.inl (.int, 80, 0, fun _ => none)) := h.2.2.2.2.2.2.2.2.2.2.2
def clV (sh : sM) (n w : Nat) : Prop := sh 15 = some (.inr (3, [.ref 1, .int 0, .int 0, .long 0, .ref 26, .ref 27, .ref 28, .ref 29, .ref 30, .int 0, .int 0, .long 0])) ∧ sh 26 = some (.inl (.long, n * w, 1, fun _ => none)) ∧ sh 27 = some (.inl (.long, n * w, 1, fun _ => none)) ∧ sh 28 = some (.inl (.long, n * w, 1, fun _ => none)) ∧ sh 29 = some (.inl (.long, w, 1, fun _ => none)) ∧ sh 30 = some (.inl (.long, w, 1, fun _ => none))
theorem c_15 {sh : sM} {n w : Nat} (h : clV sh n w) : sh 15 = some (.inr (3, [.ref 1, .int 0, .int 0, .long 0, .ref 26, .ref 27, .ref 28, .ref 29, .ref 30, .int 0, .int 0, .long 0])) := h.1
theorem c_26 {sh : sM} {n w : Nat} (h : clV sh n w) : sh 26 = some (.inl (.long, n * w, 1, fun _ => none)) := h.2.1
theorem c_27 {sh : sM} {n w : Nat} (h : clV sh n w) : sh 27 = some (.inl (.long, n * w, 1, fun _ => none)) := h.2.2.1
theorem c_28 {sh : sM} {n w : Nat} (h : clV sh n w) : sh 28 = some (.inl (.long, n * w, 1, fun _ => none)) := h.2.2.2.1
theorem c_29 {sh : sM} {n w : Nat} (h : clV sh n w) : sh 29 = some (.inl (.long, w, 1, fun _ => none)) := h.2.2.2.2.1
theorem c_30 {sh : sM} {n w : Nat} (h : clV sh n w) : sh 30 = some (.inl (.long, w, 1, fun _ => none)) := h.2.2.2.2.2
def clA (sh : sM) : Prop := sh 16 = some (.inr (4, [.ref 1, .ref 31, .ref 32, .ref 33, .int 0, .int 0])) ∧ sh 31 = some (.inl (.int, 256, 0, fun _ => none)) ∧ sh 32 = some (.inl (.int, 256, 0, fun _ => none)) ∧ sh 33 = some (.inl (.int, 80, 0, fun _ => none))
theorem c_16 {sh : sM} (h : clA sh) : sh 16 = some (.inr (4, [.ref 1, .ref 31, .ref 32, .ref 33, .int 0, .int 0])) := h.1
theorem c_31 {sh : sM} (h : clA sh) : sh 31 = some (.inl (.int, 256, 0, fun _ => none)) := h.2.1
theorem c_32 {sh : sM} (h : clA sh) : sh 32 = some (.inl (.int, 256, 0, fun _ => none)) := h.2.2.1
theorem c_33 {sh : sM} (h : clA sh) : sh 33 = some (.inl (.int, 80, 0, fun _ => none)) := h.2.2.2
def clS (sh : sM) : Prop := sh 17 = some (.inr (5, [.ref 1, .ref 15, .ref 34, .ref 35, .int 0, .int 0, .long 0, .int 0, .int 0])) ∧ sh 34 = some (.inl (.long, 80, 1, fun _ => none)) ∧ sh 35 = some (.inl (.int, 80, 0, fun _ => none))
theorem c_17 {sh : sM} (h : clS sh) : sh 17 = some (.inr (5, [.ref 1, .ref 15, .ref 34, .ref 35, .int 0, .int 0, .long 0, .int 0, .int 0])) := h.1
theorem c_34 {sh : sM} (h : clS sh) : sh 34 = some (.inl (.long, 80, 1, fun _ => none)) := h.2.1
theorem c_35 {sh : sM} (h : clS sh) : sh 35 = some (.inl (.int, 80, 0, fun _ => none)) := h.2.2
def clT (sh : sM) (c s : Nat) : Prop := sh 24 = some (.inr (6, [.ref 1, .ref 15, .int 0, .int 0, .ref 36, .ref 37, .ref 38, .ref 39, .ref 40, .ref 41, .ref 42, .ref 43, .int 0, .int 0, .int 0, .int 0])) ∧ sh 36 = some (.inl (.int, c, 0, fun _ => none)) ∧ sh 37 = some (.inl (.int, s, 0, fun _ => none)) ∧ sh 38 = some (.inl (.int, s, 0, fun _ => none)) ∧ sh 39 = some (.inl (.int, s, 0, fun _ => none)) ∧ sh 40 = some (.inl (.int, s, 0, fun _ => none)) ∧ sh 41 = some (.inl (.int, s, 0, fun _ => none)) ∧ sh 42 = some (.inl (.int, s, 0, fun _ => none)) ∧ sh 43 = some (.inl (.int, s, 0, fun _ => none))
theorem c_24 {sh : sM} {c s : Nat} (h : clT sh c s) : sh 24 = some (.inr (6, [.ref 1, .ref 15, .int 0, .int 0, .ref 36, .ref 37, .ref 38, .ref 39, .ref 40, .ref 41, .ref 42, .ref 43, .int 0, .int 0, .int 0, .int 0])) := h.1
theorem c_36 {sh : sM} {c s : Nat} (h : clT sh c s) : sh 36 = some (.inl (.int, c, 0, fun _ => none)) := h.2.1
theorem c_37 {sh : sM} {c s : Nat} (h : clT sh c s) : sh 37 = some (.inl (.int, s, 0, fun _ => none)) := h.2.2.1
theorem c_38 {sh : sM} {c s : Nat} (h : clT sh c s) : sh 38 = some (.inl (.int, s, 0, fun _ => none)) := h.2.2.2.1
theorem c_39 {sh : sM} {c s : Nat} (h : clT sh c s) : sh 39 = some (.inl (.int, s, 0, fun _ => none)) := h.2.2.2.2.1
theorem c_40 {sh : sM} {c s : Nat} (h : clT sh c s) : sh 40 = some (.inl (.int, s, 0, fun _ => none)) := h.2.2.2.2.2.1
theorem c_41 {sh : sM} {c s : Nat} (h : clT sh c s) : sh 41 = some (.inl (.int, s, 0, fun _ => none)) := h.2.2.2.2.2.2.1
theorem c_42 {sh : sM} {c s : Nat} (h : clT sh c s) : sh 42 = some (.inl (.int, s, 0, fun _ => none)) := h.2.2.2.2.2.2.2.1
theorem c_43 {sh : sM} {c s : Nat} (h : clT sh c s) : sh 43 = some (.inl (.int, s, 0, fun _ => none)) := h.2.2.2.2.2.2.2.2
def clH (sh : sM) : Prop := sh 14 = some (.inr (2, [.ref 1, .ref 15, .ref 16, .ref 17, .ref 18, .ref 19, .ref 20, .ref 21, .ref 22, .ref 23, .ref 24, .ref 25])) ∧ sh 25 = some (.inl (.long, 256, 1, fun _ => none))
theorem c_14 {sh : sM} (h : clH sh) : sh 14 = some (.inr (2, [.ref 1, .ref 15, .ref 16, .ref 17, .ref 18, .ref 19, .ref 20, .ref 21, .ref 22, .ref 23, .ref 24, .ref 25])) := h.1
theorem c_25 {sh : sM} (h : clH sh) : sh 25 = some (.inl (.long, 256, 1, fun _ => none)) := h.2
def clM (sh : sM) (hs : Value) : Prop := sh 0 = some (.inr (0, [.ref 1, .ref 2, hs])) ∧ sh 2 = some (.inl (.int, 32, 0, fun _ => none))
theorem c_0 {sh : sM} {hs : Value} (h : clM sh hs) : sh 0 = some (.inr (0, [.ref 1, .ref 2, hs])) := h.1
def nAt (f : Nat → Int) (n : Nat) (z : Int) : Int := if 0 ≤ z ∧ z < n then f z.toNat else 0
def wAt (f : Nat → Int64) (n : Nat) (z : Int) : Int64 := if 0 ≤ z ∧ z < n then f z.toNat else 0
theorem nAt_in {f : Nat → Int} {n k : Nat} (h : k < n) : nAt f n (k : Int) = f k := by unfold nAt; rw [if_pos (by omega), Int.toNat_natCast]
theorem nAt_neg {f : Nat → Int} {n : Nat} {z : Int} (h : z < 0) : nAt f n z = 0 := by unfold nAt; rw [if_neg (by omega)]
theorem wAt_in {f : Nat → Int64} {n k : Nat} (h : k < n) : wAt f n (k : Int) = f k := by unfold wAt; rw [if_pos (by omega), Int.toNat_natCast]
theorem m_numberAt (hx : HX X L9 xs) {i n : Nat} {f : Nat → Option Nat} {z : Int} (hs : sh i = some (.inl (.int, n, 0, f))) (hn : n ≤ 2147483647) (hz : -2147483648 ≤ z ∧ z < 2147483648) : EVp TT cl6 X mi_M_numberAt 0 [.ref i, .int (Int32.ofInt z)] sh I J (.int (Int32.ofInt (nAt (I i) n z))) := by
  refine gw_enter (hx_ok hx) (by decide +kernel) (Nat.le_of_ble_eq_true rfl) (L := [(0, _), (1, _)]) rfl ?_
  refine lf_iload_n d_M_numberAt_0 rfl rfl ?_
  refine gi_if_lt d_M_numberAt_1 (tgt := 16) (by decide) (by omega) (fun hb1 => ?_) (fun hb1 => ?_)
  · refine lf_iconst d_M_numberAt_16 (v := Int32.ofInt ((0 : Nat) : Int)) rfl ?_
    refine gw_iret d_M_numberAt_17 rfl ?_
    first
      | exact ⟨rfl, congrArg (fun z => some (Value.int (Int32.ofInt z))) (if_pos (by omega)).symm, rfl, rfl⟩
      | exact ⟨rfl, congrArg (fun z => some (Value.int (Int32.ofInt z))) (if_neg (by omega)).symm, rfl, rfl⟩
  · refine lf_iload_n d_M_numberAt_4 rfl rfl ?_
    refine lf_aload_n d_M_numberAt_5 rfl rfl rfl ?_
    refine gi_len d_M_numberAt_6 hs ?_
    refine gi_icmp_ge d_M_numberAt_7 (tgt := 16) (by decide) (by omega) (fun hb7 => ?_) (fun hb7 => ?_)
    · refine lf_iconst d_M_numberAt_16 (v := Int32.ofInt ((0 : Nat) : Int)) rfl ?_
      refine gw_iret d_M_numberAt_17 rfl ?_
      first
        | exact ⟨rfl, congrArg (fun z => some (Value.int (Int32.ofInt z))) (if_pos (by omega)).symm, rfl, rfl⟩
        | exact ⟨rfl, congrArg (fun z => some (Value.int (Int32.ofInt z))) (if_neg (by omega)).symm, rfl, rfl⟩
    · refine lf_aload_n d_M_numberAt_10 rfl rfl rfl ?_
      refine lf_iload_n d_M_numberAt_11 rfl rfl ?_
      refine gi_iaload d_M_numberAt_12 hs (by omega) ?_
      refine lf_goto d_M_numberAt_13 (tgt := 17) (by decide) ?_
      refine gw_iret d_M_numberAt_17 rfl ?_
      first
        | exact ⟨rfl, congrArg (fun z => some (Value.int (Int32.ofInt z))) (if_pos (by omega)).symm, rfl, rfl⟩
        | exact ⟨rfl, congrArg (fun z => some (Value.int (Int32.ofInt z))) (if_neg (by omega)).symm, rfl, rfl⟩
theorem m_numberAtN (hx : HX X L9 xs) {i n k : Nat} {f : Nat → Option Nat} (hs : sh i = some (.inl (.int, n, 0, f))) (hk : k < n ∧ n ≤ 2147483647) : EVp TT cl6 X mi_M_numberAt 0 [.ref i, .int (Int32.ofInt (k : Int))] sh I J (.int (Int32.ofInt (I i k))) := by
  have h := m_numberAt (I := I) (J := J) hx hs hk.2 (z := (k : Int)) (by omega)
  rw [nAt_in hk.1] at h
  exact h
theorem m_numberAtZ (hx : HX X L9 xs) {i n : Nat} {z : Int} {f : Nat → Option Nat} (hs : sh i = some (.inl (.int, n, 0, f))) (hk : 0 ≤ z ∧ z < n ∧ n ≤ 2147483647) : EVp TT cl6 X mi_M_numberAt 0 [.ref i, .int (Int32.ofInt z)] sh I J (.int (Int32.ofInt (I i z.toNat))) := by
  have h := m_numberAt (I := I) (J := J) hx hs hk.2.2 (z := z) (by omega)
  unfold nAt at h
  rw [if_pos (by omega)] at h
  exact h
theorem m_wordAt (hx : HX X L9 xs) {i n : Nat} {f : Nat → Option Nat} {z : Int} (hs : sh i = some (.inl (.long, n, 1, f))) (hn : n ≤ 2147483647) (hz : -2147483648 ≤ z ∧ z < 2147483648) : EVp TT cl6 X mi_M_wordAt 0 [.ref i, .int (Int32.ofInt z)] sh I J (.long (wAt (J i) n z)) := by
  refine gw_enter (hx_ok hx) (by decide +kernel) (Nat.le_of_ble_eq_true rfl) (L := [(0, _), (1, _)]) rfl ?_
  refine lf_iload_n d_M_wordAt_0 rfl rfl ?_
  refine gi_if_lt d_M_wordAt_1 (tgt := 16) (by decide) (by omega) (fun hb1 => ?_) (fun hb1 => ?_)
  · refine lf_lconst d_M_wordAt_16 rfl ?_
    refine gw_lret d_M_wordAt_17 rfl ?_
    first
      | exact ⟨rfl, congrArg (fun z => some (Value.long z)) (if_pos (by omega)).symm, rfl, rfl⟩
      | exact ⟨rfl, congrArg (fun z => some (Value.long z)) (if_neg (by omega)).symm, rfl, rfl⟩
  · refine lf_iload_n d_M_wordAt_4 rfl rfl ?_
    refine lf_aload_n d_M_wordAt_5 rfl rfl rfl ?_
    refine gi_len d_M_wordAt_6 hs ?_
    refine gi_icmp_ge d_M_wordAt_7 (tgt := 16) (by decide) (by omega) (fun hb7 => ?_) (fun hb7 => ?_)
    · refine lf_lconst d_M_wordAt_16 rfl ?_
      refine gw_lret d_M_wordAt_17 rfl ?_
      first
        | exact ⟨rfl, congrArg (fun z => some (Value.long z)) (if_pos (by omega)).symm, rfl, rfl⟩
        | exact ⟨rfl, congrArg (fun z => some (Value.long z)) (if_neg (by omega)).symm, rfl, rfl⟩
    · refine lf_aload_n d_M_wordAt_10 rfl rfl rfl ?_
      refine lf_iload_n d_M_wordAt_11 rfl rfl ?_
      refine gi_laload d_M_wordAt_12 hs (by omega) ?_
      refine lf_goto d_M_wordAt_13 (tgt := 17) (by decide) ?_
      refine gw_lret d_M_wordAt_17 rfl ?_
      first
        | exact ⟨rfl, congrArg (fun z => some (Value.long z)) (if_pos (by omega)).symm, rfl, rfl⟩
        | exact ⟨rfl, congrArg (fun z => some (Value.long z)) (if_neg (by omega)).symm, rfl, rfl⟩
theorem m_wordAtN (hx : HX X L9 xs) {i n k : Nat} {f : Nat → Option Nat} (hs : sh i = some (.inl (.long, n, 1, f))) (hk : k < n ∧ n ≤ 2147483647) : EVp TT cl6 X mi_M_wordAt 0 [.ref i, .int (Int32.ofInt (k : Int))] sh I J (.long (J i k)) := by
  have h := m_wordAt (I := I) (J := J) hx hs hk.2 (z := (k : Int)) (by omega)
  rw [wAt_in hk.1] at h
  exact h
theorem m_putNumberN (hx : HX X L9 xs) {i n k : Nat} {x : Int} {f : Nat → Option Nat} (hs : sh i = some (.inl (.int, n, 0, f))) (hk : k < n ∧ n ≤ 2147483647) : EVv TT cl6 X mi_M_putNumber 0 [.ref i, .int (Int32.ofInt (k : Int)), .int (Int32.ofInt x)] sh I J (fun I1 J1 => I1 = ipt I i k x ∧ J1 = J) := by
  refine gw_enter (hx_ok hx) (by decide +kernel) (Nat.le_of_ble_eq_true rfl) (L := [(0, _), (1, _), (2, _)]) rfl ?_
  refine lf_iload_n d_M_putNumber_0 rfl rfl ?_
  refine gi_if_lt d_M_putNumber_1 (tgt := 14) (by decide) (by omega) (fun hb1 => False.elim (by omega)) (fun hb1 => ?_)
  refine lf_iload_n d_M_putNumber_4 rfl rfl ?_
  refine lf_aload_n d_M_putNumber_5 rfl rfl rfl ?_
  refine gi_len d_M_putNumber_6 hs ?_
  refine gi_icmp_ge d_M_putNumber_7 (tgt := 14) (by decide) (by omega) (fun hb7 => False.elim (by omega)) (fun hb7 => ?_)
  refine lf_aload_n d_M_putNumber_10 rfl rfl rfl ?_
  refine lf_iload_n d_M_putNumber_11 rfl rfl ?_
  refine lf_iload_n d_M_putNumber_12 rfl rfl ?_
  refine gi_iastoreN d_M_putNumber_13 hs (by omega) ?_
  refine gw_ret d_M_putNumber_14 rfl ?_
  exact ⟨rfl, rfl, rfl, rfl⟩
theorem m_putWordN (hx : HX X L9 xs) {i n k : Nat} {x : Int64} {f : Nat → Option Nat} (hs : sh i = some (.inl (.long, n, 1, f))) (hk : k < n ∧ n ≤ 2147483647) : EVv TT cl6 X mi_M_putWord 0 [.ref i, .int (Int32.ofInt (k : Int)), .long x] sh I J (fun I1 J1 => I1 = I ∧ J1 = jpt J i k x) := by
  refine gw_enter (hx_ok hx) (by decide +kernel) (Nat.le_of_ble_eq_true rfl) (L := [(0, _), (1, _), (2, _)]) rfl ?_
  refine lf_iload_n d_M_putWord_0 rfl rfl ?_
  refine gi_if_lt d_M_putWord_1 (tgt := 14) (by decide) (by omega) (fun hb1 => False.elim (by omega)) (fun hb1 => ?_)
  refine lf_iload_n d_M_putWord_4 rfl rfl ?_
  refine lf_aload_n d_M_putWord_5 rfl rfl rfl ?_
  refine gi_len d_M_putWord_6 hs ?_
  refine gi_icmp_ge d_M_putWord_7 (tgt := 14) (by decide) (by omega) (fun hb7 => False.elim (by omega)) (fun hb7 => ?_)
  refine lf_aload_n d_M_putWord_10 rfl rfl rfl ?_
  refine lf_iload_n d_M_putWord_11 rfl rfl ?_
  refine lf_lload_n d_M_putWord_12 rfl rfl ?_
  refine gi_lastoreN d_M_putWord_13 hs (by omega) ?_
  refine gw_ret d_M_putWord_14 rfl ?_
  exact ⟨rfl, rfl, rfl, rfl⟩
/-- kinds are chars, owners 0 to 2 -/
def NR (I : mI) : Prop := (∀ k, 0 ≤ I 3 k ∧ I 3 k < 65536) ∧ (∀ k, 0 ≤ I 4 k ∧ I 4 k ≤ 2)
theorem n_kindOf (hx : HX X L9 xs) (hN : clN sh) (hR : NR I) {k : Nat} (hk : k < 80) : EVp TT cl6 X mi_N_kindOf 0 [.ref 1, .int (Int32.ofInt (k : Int))] sh I J (.int (Int32.ofInt (I 3 k))) := by
  have h3 := hR.1 k
  refine gw_enter (hx_ok hx) (by decide +kernel) (Nat.le_of_ble_eq_true rfl) (L := [(0, _), (1, _)]) rfl ?_
  refine lf_iload_n d_N_kindOf_0 rfl rfl ?_
  refine gi_if_lt d_N_kindOf_1 (tgt := 22) (by decide) (by omega) (fun hb1 => False.elim (by omega)) (fun hb1 => ?_)
  refine lf_iload_n d_N_kindOf_4 rfl rfl ?_
  refine lf_aload_n d_N_kindOf_5 rfl rfl rfl ?_
  refine gi_getr s_N_kindOf_6 (c_1 hN) rfl ?_
  refine gi_len d_N_kindOf_9 (c_3 hN) ?_
  refine gi_icmp_ge d_N_kindOf_10 (tgt := 22) (by decide) (by omega) (fun hb10 => False.elim (by omega)) (fun hb10 => ?_)
  refine lf_aload_n d_N_kindOf_13 rfl rfl rfl ?_
  refine gi_getr s_N_kindOf_14 (c_1 hN) rfl ?_
  refine lf_iload_n d_N_kindOf_17 rfl rfl ?_
  refine gi_caloadN d_N_kindOf_18 (c_3 hN) (by omega) ?_
  refine lf_goto d_N_kindOf_19 (tgt := 24) (by decide) ?_
  refine gw_cret d_N_kindOf_24 rfl (by omega) ?_
  exact ⟨rfl, rfl, rfl, rfl⟩
theorem n_isInput (hx : HX X L9 xs) (hN : clN sh) (hR : NR I) {k : Nat} (hk : k < 80) : EVp TT cl6 X mi_N_isInput 1 [.ref 1, .int (Int32.ofInt (k : Int))] sh I J (.int (Int32.ofInt (if I 3 k = 105 then 1 else 0))) := by
  have h3 := hR.1 k
  refine gw_enter (hx_ok hx) (by decide +kernel) (Nat.le_of_ble_eq_true rfl) (L := [(0, _), (1, _)]) rfl ?_
  refine lf_aload_n d_N_isInput_0 rfl rfl rfl ?_
  refine lf_iload_n d_N_isInput_1 rfl rfl ?_
  refine gw_callP s_N_isInput_2 (n_kindOf hx hN hR (by omega)) (S := []) rfl rfl (gcR_2 (c_1 hN)) (by decide) (by decide +kernel) (Nat.le_of_ble_eq_true rfl) ?_
  refine lf_bipush d_N_isInput_5 (v := Int32.ofInt ((105 : Nat) : Int)) (by decide +kernel) ?_
  refine gi_icmp_ne d_N_isInput_7 (tgt := 14) (by decide) (by omega) (fun hb7 => ?_) (fun hb7 => ?_)
  · refine lf_iconst d_N_isInput_14 (v := Int32.ofInt ((0 : Nat) : Int)) rfl ?_
    refine gw_zret d_N_isInput_15 rfl (by omega) ?_
    first
      | exact ⟨rfl, congrArg (fun z => some (Value.int (Int32.ofInt z))) (if_pos (by omega)).symm, rfl, rfl⟩
      | exact ⟨rfl, congrArg (fun z => some (Value.int (Int32.ofInt z))) (if_neg (by omega)).symm, rfl, rfl⟩
  · refine lf_iconst d_N_isInput_10 (v := Int32.ofInt ((1 : Nat) : Int)) rfl ?_
    refine lf_goto d_N_isInput_11 (tgt := 15) (by decide) ?_
    refine gw_zret d_N_isInput_15 rfl (by omega) ?_
    first
      | exact ⟨rfl, congrArg (fun z => some (Value.int (Int32.ofInt z))) (if_pos (by omega)).symm, rfl, rfl⟩
      | exact ⟨rfl, congrArg (fun z => some (Value.int (Int32.ofInt z))) (if_neg (by omega)).symm, rfl, rfl⟩
theorem n_isCell (hx : HX X L9 xs) (hN : clN sh) (hR : NR I) {k : Nat} (hk : k < 80) : EVp TT cl6 X mi_N_isCell 1 [.ref 1, .int (Int32.ofInt (k : Int))] sh I J (.int (Int32.ofInt (if I 3 k = 99 then 1 else 0))) := by
  have h3 := hR.1 k
  refine gw_enter (hx_ok hx) (by decide +kernel) (Nat.le_of_ble_eq_true rfl) (L := [(0, _), (1, _)]) rfl ?_
  refine lf_aload_n d_N_isCell_0 rfl rfl rfl ?_
  refine lf_iload_n d_N_isCell_1 rfl rfl ?_
  refine gw_callP s_N_isCell_2 (n_kindOf hx hN hR (by omega)) (S := []) rfl rfl (gcR_2 (c_1 hN)) (by decide) (by decide +kernel) (Nat.le_of_ble_eq_true rfl) ?_
  refine lf_bipush d_N_isCell_5 (v := Int32.ofInt ((99 : Nat) : Int)) (by decide +kernel) ?_
  refine gi_icmp_ne d_N_isCell_7 (tgt := 14) (by decide) (by omega) (fun hb7 => ?_) (fun hb7 => ?_)
  · refine lf_iconst d_N_isCell_14 (v := Int32.ofInt ((0 : Nat) : Int)) rfl ?_
    refine gw_zret d_N_isCell_15 rfl (by omega) ?_
    first
      | exact ⟨rfl, congrArg (fun z => some (Value.int (Int32.ofInt z))) (if_pos (by omega)).symm, rfl, rfl⟩
      | exact ⟨rfl, congrArg (fun z => some (Value.int (Int32.ofInt z))) (if_neg (by omega)).symm, rfl, rfl⟩
  · refine lf_iconst d_N_isCell_10 (v := Int32.ofInt ((1 : Nat) : Int)) rfl ?_
    refine lf_goto d_N_isCell_11 (tgt := 15) (by decide) ?_
    refine gw_zret d_N_isCell_15 rfl (by omega) ?_
    first
      | exact ⟨rfl, congrArg (fun z => some (Value.int (Int32.ofInt z))) (if_pos (by omega)).symm, rfl, rfl⟩
      | exact ⟨rfl, congrArg (fun z => some (Value.int (Int32.ofInt z))) (if_neg (by omega)).symm, rfl, rfl⟩
theorem n_isGate (hx : HX X L9 xs) (hN : clN sh) (hR : NR I) {k : Nat} (hk : k < 80) : EVp TT cl6 X mi_N_isGate 1 [.ref 1, .int (Int32.ofInt (k : Int))] sh I J (.int (Int32.ofInt (if ¬ I 3 k = 105 ∧ ¬ I 3 k = 99 then 1 else 0))) := by
  have h3 := hR.1 k
  refine gw_enter (hx_ok hx) (by decide +kernel) (Nat.le_of_ble_eq_true rfl) (L := [(0, _), (1, _)]) rfl ?_
  refine lf_aload_n d_N_isGate_0 rfl rfl rfl ?_
  refine lf_iload_n d_N_isGate_1 rfl rfl ?_
  refine gw_callP s_N_isGate_2 (n_kindOf hx hN hR (by omega)) (S := []) rfl rfl (gcR_2 (c_1 hN)) (by decide) (by decide +kernel) (Nat.le_of_ble_eq_true rfl) ?_
  refine lf_istore_n d_N_isGate_5 rfl (by decide +kernel) (L2 := [(2, _), (0, _), (1, _)]) rfl ?_
  refine lf_iload_n d_N_isGate_6 rfl rfl ?_
  refine lf_bipush d_N_isGate_7 (v := Int32.ofInt ((105 : Nat) : Int)) (by decide +kernel) ?_
  refine gi_icmp_eq d_N_isGate_9 (tgt := 22) (by decide) (by omega) (fun hb9 => ?_) (fun hb9 => ?_)
  · refine lf_iconst d_N_isGate_22 (v := Int32.ofInt ((0 : Nat) : Int)) rfl ?_
    refine gw_zret d_N_isGate_23 rfl (by omega) ?_
    first
      | exact ⟨rfl, congrArg (fun z => some (Value.int (Int32.ofInt z))) (if_pos (by omega)).symm, rfl, rfl⟩
      | exact ⟨rfl, congrArg (fun z => some (Value.int (Int32.ofInt z))) (if_neg (by omega)).symm, rfl, rfl⟩
  · refine lf_iload_n d_N_isGate_12 rfl rfl ?_
    refine lf_bipush d_N_isGate_13 (v := Int32.ofInt ((99 : Nat) : Int)) (by decide +kernel) ?_
    refine gi_icmp_eq d_N_isGate_15 (tgt := 22) (by decide) (by omega) (fun hb15 => ?_) (fun hb15 => ?_)
    · refine lf_iconst d_N_isGate_22 (v := Int32.ofInt ((0 : Nat) : Int)) rfl ?_
      refine gw_zret d_N_isGate_23 rfl (by omega) ?_
      first
        | exact ⟨rfl, congrArg (fun z => some (Value.int (Int32.ofInt z))) (if_pos (by omega)).symm, rfl, rfl⟩
        | exact ⟨rfl, congrArg (fun z => some (Value.int (Int32.ofInt z))) (if_neg (by omega)).symm, rfl, rfl⟩
    · refine lf_iconst d_N_isGate_18 (v := Int32.ofInt ((1 : Nat) : Int)) rfl ?_
      refine lf_goto d_N_isGate_19 (tgt := 23) (by decide) ?_
      refine gw_zret d_N_isGate_23 rfl (by omega) ?_
      first
        | exact ⟨rfl, congrArg (fun z => some (Value.int (Int32.ofInt z))) (if_pos (by omega)).symm, rfl, rfl⟩
        | exact ⟨rfl, congrArg (fun z => some (Value.int (Int32.ofInt z))) (if_neg (by omega)).symm, rfl, rfl⟩
theorem n_ownerOf (hx : HX X L9 xs) (hN : clN sh) {k : Nat} (hk : k < 80) : EVp TT cl6 X mi_N_ownerOf 1 [.ref 1, .int (Int32.ofInt (k : Int))] sh I J (.int (Int32.ofInt (I 4 k))) := by
  refine gw_enter (hx_ok hx) (by decide +kernel) (Nat.le_of_ble_eq_true rfl) (L := [(0, _), (1, _)]) rfl ?_
  refine lf_aload_n d_N_ownerOf_0 rfl rfl rfl ?_
  refine gi_getr s_N_ownerOf_1 (c_1 hN) rfl ?_
  refine lf_iload_n d_N_ownerOf_4 rfl rfl ?_
  refine gw_callP s_N_ownerOf_5 (m_numberAtN hx (c_4 hN) (by omega)) (S := []) rfl rfl gcR_4 (by decide) (by decide +kernel) (Nat.le_of_ble_eq_true rfl) ?_
  refine gw_iret d_N_ownerOf_8 rfl ?_
  exact ⟨rfl, rfl, rfl, rfl⟩
theorem n_oneOfPins (hx : HX X L9 xs) (hN : clN sh) {k : Nat} (hk : k < 80) : EVp TT cl6 X mi_N_oneOfPins 1 [.ref 1, .int (Int32.ofInt (k : Int))] sh I J (.int (Int32.ofInt (I 5 k))) := by
  refine gw_enter (hx_ok hx) (by decide +kernel) (Nat.le_of_ble_eq_true rfl) (L := [(0, _), (1, _)]) rfl ?_
  refine lf_aload_n d_N_oneOfPins_0 rfl rfl rfl ?_
  refine gi_getr s_N_oneOfPins_1 (c_1 hN) rfl ?_
  refine lf_iload_n d_N_oneOfPins_4 rfl rfl ?_
  refine gw_callP s_N_oneOfPins_5 (m_numberAtN hx (c_5 hN) (by omega)) (S := []) rfl rfl gcR_4 (by decide) (by decide +kernel) (Nat.le_of_ble_eq_true rfl) ?_
  refine gw_iret d_N_oneOfPins_8 rfl ?_
  exact ⟨rfl, rfl, rfl, rfl⟩
theorem n_twoOfPins (hx : HX X L9 xs) (hN : clN sh) {k : Nat} (hk : k < 80) : EVp TT cl6 X mi_N_twoOfPins 1 [.ref 1, .int (Int32.ofInt (k : Int))] sh I J (.int (Int32.ofInt (I 6 k))) := by
  refine gw_enter (hx_ok hx) (by decide +kernel) (Nat.le_of_ble_eq_true rfl) (L := [(0, _), (1, _)]) rfl ?_
  refine lf_aload_n d_N_twoOfPins_0 rfl rfl rfl ?_
  refine gi_getr s_N_twoOfPins_1 (c_1 hN) rfl ?_
  refine lf_iload_n d_N_twoOfPins_4 rfl rfl ?_
  refine gw_callP s_N_twoOfPins_5 (m_numberAtN hx (c_6 hN) (by omega)) (S := []) rfl rfl gcR_4 (by decide) (by decide +kernel) (Nat.le_of_ble_eq_true rfl) ?_
  refine gw_iret d_N_twoOfPins_8 rfl ?_
  exact ⟨rfl, rfl, rfl, rfl⟩
theorem n_dataOf (hx : HX X L9 xs) (hN : clN sh) {k : Nat} (hk : k < 80) : EVp TT cl6 X mi_N_dataOf 1 [.ref 1, .int (Int32.ofInt (k : Int))] sh I J (.int (Int32.ofInt (I 5 k))) := by
  refine gw_enter (hx_ok hx) (by decide +kernel) (Nat.le_of_ble_eq_true rfl) (L := [(0, _), (1, _)]) rfl ?_
  refine lf_aload_n d_N_dataOf_0 rfl rfl rfl ?_
  refine gi_getr s_N_dataOf_1 (c_1 hN) rfl ?_
  refine lf_iload_n d_N_dataOf_4 rfl rfl ?_
  refine gw_callP s_N_dataOf_5 (m_numberAtN hx (c_5 hN) (by omega)) (S := []) rfl rfl gcR_4 (by decide) (by decide +kernel) (Nat.le_of_ble_eq_true rfl) ?_
  refine gw_iret d_N_dataOf_8 rfl ?_
  exact ⟨rfl, rfl, rfl, rfl⟩
theorem n_firstOf (hx : HX X L9 xs) (hN : clN sh) {k : Nat} (hk : k < 80) : EVp TT cl6 X mi_N_firstOf 1 [.ref 1, .int (Int32.ofInt (k : Int))] sh I J (.int (Int32.ofInt (I 7 k))) := by
  refine gw_enter (hx_ok hx) (by decide +kernel) (Nat.le_of_ble_eq_true rfl) (L := [(0, _), (1, _)]) rfl ?_
  refine lf_aload_n d_N_firstOf_0 rfl rfl rfl ?_
  refine gi_getr s_N_firstOf_1 (c_1 hN) rfl ?_
  refine lf_iload_n d_N_firstOf_4 rfl rfl ?_
  refine gw_callP s_N_firstOf_5 (m_numberAtN hx (c_7 hN) (by omega)) (S := []) rfl rfl gcR_4 (by decide) (by decide +kernel) (Nat.le_of_ble_eq_true rfl) ?_
  refine gw_iret d_N_firstOf_8 rfl ?_
  exact ⟨rfl, rfl, rfl, rfl⟩
theorem n_nameOf (hx : HX X L9 xs) (hN : clN sh) {k : Nat} (hk : k < 80) : EVp TT cl6 X mi_N_nameOf 1 [.ref 1, .int (Int32.ofInt (k : Int))] sh I J (.int (Int32.ofInt (I 8 k))) := by
  refine gw_enter (hx_ok hx) (by decide +kernel) (Nat.le_of_ble_eq_true rfl) (L := [(0, _), (1, _)]) rfl ?_
  refine lf_aload_n d_N_nameOf_0 rfl rfl rfl ?_
  refine gi_getr s_N_nameOf_1 (c_1 hN) rfl ?_
  refine lf_iload_n d_N_nameOf_4 rfl rfl ?_
  refine gw_callP s_N_nameOf_5 (m_numberAtN hx (c_8 hN) (by omega)) (S := []) rfl rfl gcR_4 (by decide) (by decide +kernel) (Nat.le_of_ble_eq_true rfl) ?_
  refine gw_iret d_N_nameOf_8 rfl ?_
  exact ⟨rfl, rfl, rfl, rfl⟩
theorem n_cellsOf (hx : HX X L9 xs) (hN : clN sh) {k : Nat} (hk : k < 2) : EVp TT cl6 X mi_N_cellsOf 1 [.ref 1, .int (Int32.ofInt (k : Int))] sh I J (.int (Int32.ofInt (I 11 k))) := by
  refine gw_enter (hx_ok hx) (by decide +kernel) (Nat.le_of_ble_eq_true rfl) (L := [(0, _), (1, _)]) rfl ?_
  refine lf_aload_n d_N_cellsOf_0 rfl rfl rfl ?_
  refine gi_getr s_N_cellsOf_1 (c_1 hN) rfl ?_
  refine lf_iload_n d_N_cellsOf_4 rfl rfl ?_
  refine gw_callP s_N_cellsOf_5 (m_numberAtN hx (c_11 hN) (by omega)) (S := []) rfl rfl gcR_4 (by decide) (by decide +kernel) (Nat.le_of_ble_eq_true rfl) ?_
  refine gw_iret d_N_cellsOf_8 rfl ?_
  exact ⟨rfl, rfl, rfl, rfl⟩
theorem n_outputsOf (hx : HX X L9 xs) (hN : clN sh) {k : Nat} (hk : k < 2) : EVp TT cl6 X mi_N_outputsOf 1 [.ref 1, .int (Int32.ofInt (k : Int))] sh I J (.int (Int32.ofInt (I 10 k))) := by
  refine gw_enter (hx_ok hx) (by decide +kernel) (Nat.le_of_ble_eq_true rfl) (L := [(0, _), (1, _)]) rfl ?_
  refine lf_aload_n d_N_outputsOf_0 rfl rfl rfl ?_
  refine gi_getr s_N_outputsOf_1 (c_1 hN) rfl ?_
  refine lf_iload_n d_N_outputsOf_4 rfl rfl ?_
  refine gw_callP s_N_outputsOf_5 (m_numberAtN hx (c_10 hN) (by omega)) (S := []) rfl rfl gcR_4 (by decide) (by decide +kernel) (Nat.le_of_ble_eq_true rfl) ?_
  refine gw_iret d_N_outputsOf_8 rfl ?_
  exact ⟨rfl, rfl, rfl, rfl⟩
theorem n_sourceLine (hx : HX X L9 xs) (hN : clN sh) {k : Nat} (hk : k < 14) : EVp TT cl6 X mi_N_sourceLine 1 [.ref 1, .int (Int32.ofInt (k : Int))] sh I J (.int (Int32.ofInt (I 12 k))) := by
  refine gw_enter (hx_ok hx) (by decide +kernel) (Nat.le_of_ble_eq_true rfl) (L := [(0, _), (1, _)]) rfl ?_
  refine lf_aload_n d_N_sourceLine_0 rfl rfl rfl ?_
  refine gi_getr s_N_sourceLine_1 (c_1 hN) rfl ?_
  refine lf_iload_n d_N_sourceLine_4 rfl rfl ?_
  refine gw_callP s_N_sourceLine_5 (m_numberAtN hx (c_12 hN) (by omega)) (S := []) rfl rfl gcR_4 (by decide) (by decide +kernel) (Nat.le_of_ble_eq_true rfl) ?_
  refine gw_iret d_N_sourceLine_8 rfl ?_
  exact ⟨rfl, rfl, rfl, rfl⟩
theorem n_outputAt (hx : HX X L9 xs) (hN : clN sh) {t k : Nat} (hk : t < 2 ∧ k < 4) : EVp TT cl6 X mi_N_outputAt 1 [.ref 1, .int (Int32.ofInt (t : Int)), .int (Int32.ofInt (k : Int))] sh I J (.int (Int32.ofInt (I 9 (t * 4 + k)))) := by
  refine gw_enter (hx_ok hx) (by decide +kernel) (Nat.le_of_ble_eq_true rfl) (L := [(0, _), (1, _), (2, _)]) rfl ?_
  refine lf_aload_n d_N_outputAt_0 rfl rfl rfl ?_
  refine gi_getr s_N_outputAt_1 (c_1 hN) rfl ?_
  refine lf_iload_n d_N_outputAt_4 rfl rfl ?_
  refine lf_iconst d_N_outputAt_5 (v := Int32.ofInt ((4 : Nat) : Int)) rfl ?_
  refine gi_imulN (a := t) (b := 4) d_N_outputAt_6 ?_
  refine lf_iload_n d_N_outputAt_7 rfl rfl ?_
  refine gi_iaddN (a := (t * 4)) (b := k) d_N_outputAt_8 ?_
  refine gw_callP s_N_outputAt_9 (m_numberAtN hx (c_9 hN) (by omega)) (S := []) rfl rfl gcR_4 (by decide) (by decide +kernel) (Nat.le_of_ble_eq_true rfl) ?_
  refine gw_iret d_N_outputAt_12 rfl ?_
  exact ⟨rfl, rfl, rfl, rfl⟩
theorem n_sourceCount (hx : HX X L9 xs) (hN : clN sh) : EVp TT cl6 X mi_N_sourceCount 2 [.ref 1] sh I J (.int (Int32.ofInt (I 1 12 + I 11 0 + I 11 1))) := by
  refine gw_enter (hx_ok hx) (by decide +kernel) (Nat.le_of_ble_eq_true rfl) (L := [(0, _)]) rfl ?_
  refine lf_aload_n d_N_sourceCount_0 rfl rfl rfl ?_
  refine gi_geti s_N_sourceCount_1 (c_1 hN) rfl ?_
  refine lf_aload_n d_N_sourceCount_4 rfl rfl rfl ?_
  refine lf_iconst d_N_sourceCount_5 (v := Int32.ofInt ((0 : Nat) : Int)) rfl ?_
  refine gw_callP s_N_sourceCount_6 (n_cellsOf hx hN (by omega)) (S := [_]) rfl rfl (gcR_2 (c_1 hN)) (by decide) (by decide +kernel) (Nat.le_of_ble_eq_true rfl) ?_
  refine gi_iadd d_N_sourceCount_9 ?_
  refine lf_aload_n d_N_sourceCount_10 rfl rfl rfl ?_
  refine lf_iconst d_N_sourceCount_11 (v := Int32.ofInt ((1 : Nat) : Int)) rfl ?_
  refine gw_callP s_N_sourceCount_12 (n_cellsOf hx hN (by omega)) (S := [_]) rfl rfl (gcR_2 (c_1 hN)) (by decide) (by decide +kernel) (Nat.le_of_ble_eq_true rfl) ?_
  refine gi_iadd d_N_sourceCount_15 ?_
  refine gw_iret d_N_sourceCount_16 rfl ?_
  exact ⟨rfl, rfl, rfl, rfl⟩
theorem n_hasLine (hx : HX X L9 xs) (hN : clN sh) (hl : 0 ≤ I 1 11 ∧ I 1 11 ≤ 80) {z : Int} (hz : -2147483648 ≤ z ∧ z < 2147483648) : EVp TT cl6 X mi_N_hasLine 0 [.ref 1, .int (Int32.ofInt z)] sh I J (.int (Int32.ofInt (if 0 ≤ z ∧ z < I 1 11 then 1 else 0))) := by
  refine gw_enter (hx_ok hx) (by decide +kernel) (Nat.le_of_ble_eq_true rfl) (L := [(0, _), (1, _)]) rfl ?_
  refine lf_iload_n d_N_hasLine_0 rfl rfl ?_
  refine gi_if_lt d_N_hasLine_1 (tgt := 16) (by decide) (by omega) (fun hb1 => ?_) (fun hb1 => ?_)
  · refine lf_iconst d_N_hasLine_16 (v := Int32.ofInt ((0 : Nat) : Int)) rfl ?_
    refine gw_zret d_N_hasLine_17 rfl (by omega) ?_
    first
      | exact ⟨rfl, congrArg (fun z => some (Value.int (Int32.ofInt z))) (if_pos (by omega)).symm, rfl, rfl⟩
      | exact ⟨rfl, congrArg (fun z => some (Value.int (Int32.ofInt z))) (if_neg (by omega)).symm, rfl, rfl⟩
  · refine lf_iload_n d_N_hasLine_4 rfl rfl ?_
    refine lf_aload_n d_N_hasLine_5 rfl rfl rfl ?_
    refine gi_geti s_N_hasLine_6 (c_1 hN) rfl ?_
    refine gi_icmp_ge d_N_hasLine_9 (tgt := 16) (by decide) (by omega) (fun hb9 => ?_) (fun hb9 => ?_)
    · refine lf_iconst d_N_hasLine_16 (v := Int32.ofInt ((0 : Nat) : Int)) rfl ?_
      refine gw_zret d_N_hasLine_17 rfl (by omega) ?_
      first
        | exact ⟨rfl, congrArg (fun z => some (Value.int (Int32.ofInt z))) (if_pos (by omega)).symm, rfl, rfl⟩
        | exact ⟨rfl, congrArg (fun z => some (Value.int (Int32.ofInt z))) (if_neg (by omega)).symm, rfl, rfl⟩
    · refine lf_iconst d_N_hasLine_12 (v := Int32.ofInt ((1 : Nat) : Int)) rfl ?_
      refine lf_goto d_N_hasLine_13 (tgt := 17) (by decide) ?_
      refine gw_zret d_N_hasLine_17 rfl (by omega) ?_
      first
        | exact ⟨rfl, congrArg (fun z => some (Value.int (Int32.ofInt z))) (if_pos (by omega)).symm, rfl, rfl⟩
        | exact ⟨rfl, congrArg (fun z => some (Value.int (Int32.ofInt z))) (if_neg (by omega)).symm, rfl, rfl⟩
theorem n_fits (hx : HX X L9 xs) (hN : clN sh) (hR : NR I) {t k : Nat} (hk : t < 2 ∧ k < 80) : EVp TT cl6 X mi_N_fits 2 [.ref 1, .int (Int32.ofInt (t : Int)), .int (Int32.ofInt (k : Int))] sh I J (.int (Int32.ofInt (if I 4 k = t ∨ I 4 k = 2 then 1 else 0))) := by
  have h4 := hR.2 k
  refine gw_enter (hx_ok hx) (by decide +kernel) (Nat.le_of_ble_eq_true rfl) (L := [(0, _), (1, _), (2, _)]) rfl ?_
  refine lf_aload_n d_N_fits_0 rfl rfl rfl ?_
  refine lf_iload_n d_N_fits_1 rfl rfl ?_
  refine gw_callP s_N_fits_2 (n_ownerOf hx hN (by omega)) (S := []) rfl rfl (gcR_2 (c_1 hN)) (by decide) (by decide +kernel) (Nat.le_of_ble_eq_true rfl) ?_
  refine lf_iload_n d_N_fits_5 rfl rfl ?_
  refine gi_icmp_eq d_N_fits_6 (tgt := 18) (by decide) (by omega) (fun hb6 => ?_) (fun hb6 => ?_)
  · refine lf_iconst d_N_fits_18 (v := Int32.ofInt ((1 : Nat) : Int)) rfl ?_
    refine lf_goto d_N_fits_19 (tgt := 23) (by decide) ?_
    refine gw_zret d_N_fits_23 rfl (by omega) ?_
    first
      | exact ⟨rfl, congrArg (fun z => some (Value.int (Int32.ofInt z))) (if_pos (by omega)).symm, rfl, rfl⟩
      | exact ⟨rfl, congrArg (fun z => some (Value.int (Int32.ofInt z))) (if_neg (by omega)).symm, rfl, rfl⟩
  · refine lf_aload_n d_N_fits_9 rfl rfl rfl ?_
    refine lf_iload_n d_N_fits_10 rfl rfl ?_
    refine gw_callP s_N_fits_11 (n_ownerOf hx hN (by omega)) (S := []) rfl rfl (gcR_2 (c_1 hN)) (by decide) (by decide +kernel) (Nat.le_of_ble_eq_true rfl) ?_
    refine lf_iconst d_N_fits_14 (v := Int32.ofInt ((2 : Nat) : Int)) rfl ?_
    refine gi_icmp_ne d_N_fits_15 (tgt := 22) (by decide) (by omega) (fun hb15 => ?_) (fun hb15 => ?_)
    · refine lf_iconst d_N_fits_22 (v := Int32.ofInt ((0 : Nat) : Int)) rfl ?_
      refine gw_zret d_N_fits_23 rfl (by omega) ?_
      first
        | exact ⟨rfl, congrArg (fun z => some (Value.int (Int32.ofInt z))) (if_pos (by omega)).symm, rfl, rfl⟩
        | exact ⟨rfl, congrArg (fun z => some (Value.int (Int32.ofInt z))) (if_neg (by omega)).symm, rfl, rfl⟩
    · refine lf_iconst d_N_fits_18 (v := Int32.ofInt ((1 : Nat) : Int)) rfl ?_
      refine lf_goto d_N_fits_19 (tgt := 23) (by decide) ?_
      refine gw_zret d_N_fits_23 rfl (by omega) ?_
      first
        | exact ⟨rfl, congrArg (fun z => some (Value.int (Int32.ofInt z))) (if_pos (by omega)).symm, rfl, rfl⟩
        | exact ⟨rfl, congrArg (fun z => some (Value.int (Int32.ofInt z))) (if_neg (by omega)).symm, rfl, rfl⟩
end NT1
