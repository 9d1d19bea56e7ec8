section MC2
variable {X : XT} {L9 : Nat} {xs : Nat → Int32} {sh : sM} {I : mI} {J : mJ}

variable {D : mF} {P : Option Value → mF → Prop} {PX : String → mF → Prop} {kc ks : Nat}

/-- what a comparison leaves in the object -/
def CMPR (I1 : mI) (J : mJ) (s w a b : Nat) (inv : Bool) : Prop :=
  (∃ i, i < 2 ^ s ∧ dbit J w a b inv i = true ∧ (∀ j, j < i → dbit J w a b inv j = false) ∧ I1 17 8 = ((mir s i : Nat) : Int) ∧ 0 ≤ I1 17 7 ∧ I1 17 7 ≤ 20000) ∨
  ((∀ i, i < 64 * w → dbit J w a b inv i = false) ∧ I1 17 8 = -1 ∧ I1 17 7 = ((1 + cbr (fun i => !lfb J w a b inv i) 1 (2 ^ s) : Nat) : Int))
theorem CMPR_r {I1 : mI} {s w a b : Nat} {inv : Bool} (hs7 : s ≤ 7) (h : CMPR I1 J s w a b inv) : -1 ≤ I1 17 8 ∧ I1 17 8 < 65536 ∧ 0 ≤ I1 17 7 ∧ I1 17 7 ≤ 20000 := by
  rcases h with ⟨i, h1, -, -, h4, h5, h6⟩ | ⟨-, h2, h3⟩
  · have := mir_lt (s := s) (c := i) (by omega)
    have := pow2_7 hs7
    omega
  · have h9 := cb_le (p := fun i => decide (1 ≤ i) && (fun i => !lfb J w a b inv i) i) (2 ^ s)
    have := pow2_7 hs7
    have h8 : cbr (fun i => !lfb J w a b inv i) 1 (2 ^ s) ≤ 2 ^ s := h9
    omega
def leastB (p : Nat → Bool) : Nat → Option Nat | 0 => none | n + 1 => match leastB p n with | some i => some i | none => if p n then some n else none
theorem leastB_s {p : Nat → Bool} : ∀ {n i : Nat}, leastB p n = some i → i < n ∧ p i = true ∧ ∀ j, j < i → p j = false := by
  intro n
  induction n with
  | zero => intro i h; cases h
  | succ n ih =>
    intro i h
    unfold leastB at h
    cases e : leastB p n with
    | some k =>
      rw [e] at h
      cases h
      have g := ih e
      exact ⟨by omega, g.2⟩
    | none =>
      rw [e] at h
      cases q : p n with
      | false => rw [q] at h; cases h
      | true =>
        rw [q] at h
        cases h
        refine ⟨Nat.lt_succ_self _, q, fun j hj => ?_⟩
        have : ∀ m, leastB p m = none → ∀ j, j < m → p j = false := by
          intro m
          induction m with
          | zero => intro _ j hj; omega
          | succ m ihm =>
            intro hm j hj
            unfold leastB at hm
            cases em : leastB p m with
            | some k => rw [em] at hm; cases hm
            | none =>
              rw [em] at hm
              cases qm : p m with
              | true => rw [qm] at hm; cases hm
              | false =>
                rcases Nat.lt_or_ge j m with z | z
                · exact ihm em j z
                · rw [show j = m by omega]; exact qm
        exact this _ e j hj
theorem leastB_n {p : Nat → Bool} : ∀ {n : Nat}, leastB p n = none → ∀ j, j < n → p j = false := by
  intro n
  induction n with
  | zero => intro _ j hj; omega
  | succ n ih =>
    intro h j hj
    unfold leastB at h
    cases e : leastB p n with
    | some k => rw [e] at h; cases h
    | none =>
      rw [e] at h
      cases q : p n with
      | true => rw [q] at h; cases h
      | false =>
        rcases Nat.lt_or_ge j n with z | z
        · exact ih e j z
        · rw [show j = n by omega]; exact q
theorem dbit_k {w a b i : Nat} {inv : Bool} (h : kbit J i = false) : dbit J w a b inv i = false := by
  unfold dbit
  rw [h, Bool.and_false]
theorem gi_cmp {mi : MI} {pc len t nn rc lev : Nat} {L : List (Nat × Value)} {S S0 : List Value} (hk : kCall TT cl6 X mi pc len mi_S_compare t nn rc) (hx : HX X L9 xs) (hS : clS sh) {n w s : Nat} (hV : clV sh n w) (hn2 : n ≤ 80) (hs : I 15 1 = s) (hw : I 15 2 = w) (hsw : (s ≤ 6 ∧ w = 1) ∨ (s = 7 ∧ w = 2)) {a b : Nat} (ha : a < n) (hb : b < n) (inv : Bool) (hkz : ∀ i, 2 ^ s ≤ i → i < 64 * w → kbit J i = false)
    (hS0 : ([.ref 17, .int (Int32.ofInt ((a : Nat) : Int)), .int (Int32.ofInt ((b : Nat) : Int)), .int (Int32.ofInt (bz inv))] : List Value).reverse ++ S = S0) (hn : ([.ref 17, .int (Int32.ofInt ((a : Nat) : Int)), .int (Int32.ofInt ((b : Nat) : Int)), .int (Int32.ofInt (bz inv))] : List Value).length = nn) (hrc : gcR sh [.ref 17, .int (Int32.ofInt ((a : Nat) : Int)), .int (Int32.ofInt ((b : Nat) : Int)), .int (Int32.ofInt (bz inv))] t rc) (hlev : 4 < lev) (hml : mi_S_compare.2.2.1 ≤ 181) (hst : (S.map fun v => v.category).sum ≤ 8)
    (kk : ∀ I1 : mI, CMPR I1 J s w a b inv → (∀ x q, ¬ (x = 17 ∧ (q = 7 ∨ q = 8)) → I1 x q = I x q) → LXf TT cl6 X mi (40 + lev) (1000 + 200 * lev) D P PX kc ks (pc + len) L S (hp sh I1 J)) :
    LXf TT cl6 X mi (40 + lev) (1000 + 200 * lev) D P PX kc ks pc L S0 (hp sh I J) := by
  have hl : ∀ i, i < 64 * w → dbit J w a b inv i = true → i < 2 ^ s := fun i hi h => by
    refine Decidable.byContradiction (fun z => ?_)
    rw [dbit_k (hkz i (by omega) hi)] at h
    cases h
  have fr : ∀ I1, I1 = ipt (ipt I 17 8 (-1)) 17 7 ((1 + cbr (fun i => !lfb J w a b inv i) 1 (2 ^ s) : Nat) : Int) → (I1 17 8 = -1 ∧ I1 17 7 = ((1 + cbr (fun i => !lfb J w a b inv i) 1 (2 ^ s) : Nat) : Int)) ∧ ∀ x q, ¬ (x = 17 ∧ (q = 7 ∨ q = 8)) → I1 x q = I x q := by
    intro I1 e
    subst e
    refine ⟨⟨?_, ipt_e⟩, fun x q h => ?_⟩
    · rw [ipt_s, if_neg (by decide), ipt_e]
    · by_cases z : x = 17
      · subst z
        rw [ipt_s, if_neg (fun y => h ⟨rfl, Or.inl y⟩), ipt_s, if_neg (fun y => h ⟨rfl, Or.inr y⟩)]
      · rw [ipt_o z, ipt_o z]
  cases e : leastB (dbit J w a b inv) (64 * w) with
  | some i =>
    obtain ⟨h1, h2, h3⟩ := leastB_s e
    cases inv with
    | true => exact gw_callV hk (s_compare_f1 hx hS hV hn2 hs hw hsw ha hb (hl i h1 h2) h2 h3) hS0 hn hrc hlev hml hst (fun I1 J1 h => by
      obtain ⟨⟨g1, g2⟩, rfl⟩ := h
      exact kk I1 (Or.inl ⟨i, hl i h1 h2, h2, h3, g2⟩) g1)
    | false => exact gw_callV hk (s_compare_f0 hx hS hV hn2 hs hw hsw ha hb (hl i h1 h2) h2 h3) hS0 hn hrc hlev hml hst (fun I1 J1 h => by
      obtain ⟨⟨g1, g2⟩, rfl⟩ := h
      exact kk I1 (Or.inl ⟨i, hl i h1 h2, h2, h3, g2⟩) g1)
  | none =>
    have h := leastB_n e
    cases inv with
    | true => exact gw_callV hk (s_compare_n1 hx hS hV hn2 hs hw hsw ha hb h) hS0 hn hrc hlev hml hst (fun I1 J1 g => by
      obtain ⟨g1, rfl⟩ := g
      exact kk I1 (Or.inr ⟨h, (fr I1 g1).1⟩) (fr I1 g1).2)
    | false => exact gw_callV hk (s_compare_n0 hx hS hV hn2 hs hw hsw ha hb h) hS0 hn hrc hlev hml hst (fun I1 J1 g => by
      obtain ⟨g1, rfl⟩ := g
      exact kk I1 (Or.inr ⟨h, (fr I1 g1).1⟩) (fr I1 g1).2)
theorem m_prove (hx : HX X L9 xs) {n s ni no w : Nat} {kd : Nat → Int} {pa pb fi dt : Nat → Nat} {ot : Nat → Nat → Nat} (hSH : SHC sh n s ni w) (hC : CLB I J n s ni no w kd pa pb fi dt ot) {a b : Nat} (ha : a < n) (hb : b < n) (inv : Bool) (hkz : ∀ i, 2 ^ s ≤ i → i < 64 * w → kbit J i = false) {bu : Nat} (hbu : 1 ≤ bu ∧ bu ≤ 20000) : EVi TT cl6 X mi_M_prove 5 [.ref 0, .int (Int32.ofInt ((a : Nat) : Int)), .int (Int32.ofInt ((b : Nat) : Int)), .int (Int32.ofInt (bz inv)), .int (Int32.ofInt ((bu : Nat) : Int))] sh I J (fun r I1 J1 => CMPR I1 J s w a b inv ∧ r = (if ((bu : Nat) : Int) < I1 17 7 then 117 else if I1 17 8 < 0 then 101 else 100) ∧ (∀ x q, ¬ (x = 17 ∧ (q = 7 ∨ q = 8)) → I1 x q = I x q) ∧ J1 = J) := by
  obtain ⟨hM, hN, hH, hV, hA, hS, hT⟩ := hSH
  have hnt := hC.1
  have hnf := hC.2.2.1
  obtain ⟨hs, hw, hsw, he⟩ := hC.2.1
  obtain ⟨hi9, hi3⟩ := hC.2.2.2.2.2.2.1
  have h35 := hC.2.2.2.2.2.2.2.1
  have hn60 := hC.2.2.2.2.2.2.2.2
  obtain ⟨hn, hn2, hs7, hsn, hR, hsc, hso, hsk, hg⟩ := hnf
  have hnis := hnt.2.1
  have hp7 := pow2_7 hs7
  have hp0 := Nat.two_pow_pos s
  refine gw_enter (hx_ok hx) (by decide +kernel) (Nat.le_of_ble_eq_true rfl) (L := [(0, _), (1, _), (2, _), (3, _), (4, _)]) rfl ?_
  refine lf_aload_n d_M_prove_0 rfl rfl rfl ?_
  refine lf_iload_n d_M_prove_1 rfl rfl ?_
  refine gw_callN s_M_prove_2 (m_mustBeLine hx hN hM hn hn2 (z := (a : Int)) (by omega) (by omega)) (S := []) rfl rfl (gcR_2 (c_0 hM)) (by decide) (by decide +kernel) (Nat.le_of_ble_eq_true rfl) ?_
  refine lf_aload_n d_M_prove_5 rfl rfl rfl ?_
  refine lf_iload_n d_M_prove_6 rfl rfl ?_
  refine gw_callN s_M_prove_7 (m_mustBeLine hx hN hM hn hn2 (z := (b : Int)) (by omega) (by omega)) (S := []) rfl rfl (gcR_2 (c_0 hM)) (by decide) (by decide +kernel) (Nat.le_of_ble_eq_true rfl) ?_
  refine lf_iload d_M_prove_10 rfl ?_
  refine lf_iconst d_M_prove_12 (v := Int32.ofInt ((1 : Nat) : Int)) rfl ?_
  refine lf_sipush d_M_prove_13 (v := Int32.ofInt ((20000 : Nat) : Int)) (by decide +kernel) ?_
  refine gw_callN s_M_prove_16 (m_mustBeWithin hx (by omega) (by omega)) (S := []) rfl rfl gcR_1 (by decide) (by decide +kernel) (Nat.le_of_ble_eq_true rfl) ?_
  refine lf_aload_n d_M_prove_19 rfl rfl rfl ?_
  refine gw_callP s_M_prove_20 (m_mustBeClosed hx hM) (S := []) rfl rfl (gcR_2 (c_0 hM)) (by decide) (by decide +kernel) (Nat.le_of_ble_eq_true rfl) ?_
  refine gi_getr s_M_prove_23 (c_14 hH) rfl ?_
  refine lf_astore d_M_prove_26 (by decide +kernel) rfl (L2 := [(5, _), (0, _), (1, _), (2, _), (3, _), (4, _)]) rfl ?_
  refine lf_aload d_M_prove_28 rfl rfl ?_
  refine lf_iload_n d_M_prove_30 rfl rfl ?_
  refine lf_iload_n d_M_prove_31 rfl rfl ?_
  refine lf_iload_n d_M_prove_32 rfl rfl ?_
  refine gi_cmp s_M_prove_33 hx hS hV hn2 hs hw hsw ha hb inv hkz (S := []) rfl rfl (gcR_2 (c_17 hS)) (by decide) (by decide +kernel) (Nat.le_of_ble_eq_true rfl) (fun I wC wF => ?_)
  have hcr := CMPR_r hs7 wC
  refine lf_aload d_M_prove_36 rfl rfl ?_
  refine gi_geti s_M_prove_38 (c_17 hS) rfl ?_
  refine lf_iload d_M_prove_41 rfl ?_
  refine gi_icmp_le d_M_prove_43 (tgt := 49) (by decide) (by omega) (fun hb43 => ?_) (fun hb43 => ?_)
  · refine lf_aload d_M_prove_49 rfl rfl ?_
    refine gi_geti s_M_prove_51 (c_17 hS) rfl ?_
    refine gi_if_ge d_M_prove_54 (tgt := 62) (by decide) (by omega) (fun hb54 => ?_) (fun hb54 => ?_)
    · refine lf_bipush d_M_prove_62 (v := Int32.ofInt ((100 : Nat) : Int)) (by decide +kernel) ?_
      refine gw_cret d_M_prove_64 rfl (by omega) ?_
      first
        | exact ⟨rfl, _, rfl, wC, by rw [if_neg (by omega), if_pos (by omega)]; rfl, wF, rfl⟩
        | exact ⟨rfl, _, rfl, wC, by rw [if_neg (by omega), if_neg (by omega)]; rfl, wF, rfl⟩
    · refine lf_bipush d_M_prove_57 (v := Int32.ofInt ((101 : Nat) : Int)) (by decide +kernel) ?_
      refine lf_goto d_M_prove_59 (tgt := 64) (by decide) ?_
      refine gw_cret d_M_prove_64 rfl (by omega) ?_
      first
        | exact ⟨rfl, _, rfl, wC, by rw [if_neg (by omega), if_pos (by omega)]; rfl, wF, rfl⟩
        | exact ⟨rfl, _, rfl, wC, by rw [if_neg (by omega), if_neg (by omega)]; rfl, wF, rfl⟩
  · refine lf_bipush d_M_prove_46 (v := Int32.ofInt ((117 : Nat) : Int)) (by decide +kernel) ?_
    refine gw_cret d_M_prove_48 rfl (by omega) ?_
    exact ⟨rfl, _, rfl, wC, by rw [if_pos (by omega)]; rfl, wF, rfl⟩
theorem m_proof (hx : HX X L9 xs) {n s ni no w : Nat} {kd : Nat → Int} {pa pb fi dt : Nat → Nat} {ot : Nat → Nat → Nat} (hSH : SHC sh n s ni w) (hC : CLB I J n s ni no w kd pa pb fi dt ot) {a b : Nat} (ha : a < n) (hb : b < n) (inv : Bool) (hkz : ∀ i, 2 ^ s ≤ i → i < 64 * w → kbit J i = false) (hnd : ∀ i, i < 64 * w → dbit J w a b inv i = false) : EVi TT cl6 X mi_M_proof 5 [.ref 0, .int (Int32.ofInt ((a : Nat) : Int)), .int (Int32.ofInt ((b : Nat) : Int)), .int (Int32.ofInt (bz inv))] sh I J (fun r I1 J1 => CMPR I1 J s w a b inv ∧ r = I1 17 7 ∧ (∀ x q, ¬ (x = 17 ∧ (q = 7 ∨ q = 8)) → I1 x q = I x q) ∧ J1 = J) := by
  obtain ⟨hM, hN, hH, hV, hA, hS, hT⟩ := hSH
  have hnt := hC.1
  have hnf := hC.2.2.1
  obtain ⟨hs, hw, hsw, he⟩ := hC.2.1
  obtain ⟨hi9, hi3⟩ := hC.2.2.2.2.2.2.1
  have h35 := hC.2.2.2.2.2.2.2.1
  have hn60 := hC.2.2.2.2.2.2.2.2
  obtain ⟨hn, hn2, hs7, hsn, hR, hsc, hso, hsk, hg⟩ := hnf
  have hnis := hnt.2.1
  have hp7 := pow2_7 hs7
  have hp0 := Nat.two_pow_pos s
  refine gw_enter (hx_ok hx) (by decide +kernel) (Nat.le_of_ble_eq_true rfl) (L := [(0, _), (1, _), (2, _), (3, _)]) rfl ?_
  refine lf_aload_n d_M_proof_0 rfl rfl rfl ?_
  refine lf_iload_n d_M_proof_1 rfl rfl ?_
  refine gw_callN s_M_proof_2 (m_mustBeLine hx hN hM hn hn2 (z := (a : Int)) (by omega) (by omega)) (S := []) rfl rfl (gcR_2 (c_0 hM)) (by decide) (by decide +kernel) (Nat.le_of_ble_eq_true rfl) ?_
  refine lf_aload_n d_M_proof_5 rfl rfl rfl ?_
  refine lf_iload_n d_M_proof_6 rfl rfl ?_
  refine gw_callN s_M_proof_7 (m_mustBeLine hx hN hM hn hn2 (z := (b : Int)) (by omega) (by omega)) (S := []) rfl rfl (gcR_2 (c_0 hM)) (by decide) (by decide +kernel) (Nat.le_of_ble_eq_true rfl) ?_
  refine lf_aload_n d_M_proof_10 rfl rfl rfl ?_
  refine gw_callP s_M_proof_11 (m_mustBeClosed hx hM) (S := []) rfl rfl (gcR_2 (c_0 hM)) (by decide) (by decide +kernel) (Nat.le_of_ble_eq_true rfl) ?_
  refine gi_getr s_M_proof_14 (c_14 hH) rfl ?_
  refine lf_astore d_M_proof_17 (by decide +kernel) rfl (L2 := [(4, _), (0, _), (1, _), (2, _), (3, _)]) rfl ?_
  refine lf_aload d_M_proof_19 rfl rfl ?_
  refine lf_iload_n d_M_proof_21 rfl rfl ?_
  refine lf_iload_n d_M_proof_22 rfl rfl ?_
  refine lf_iload_n d_M_proof_23 rfl rfl ?_
  refine gi_cmp s_M_proof_24 hx hS hV hn2 hs hw hsw ha hb inv hkz (S := []) rfl rfl (gcR_2 (c_17 hS)) (by decide) (by decide +kernel) (Nat.le_of_ble_eq_true rfl) (fun I wC wF => ?_)
  have hpw : 2 ^ s ≤ 64 * w := by
    rcases hsw with ⟨z1, rfl⟩ | ⟨rfl, rfl⟩
    · exact Nat.le_trans (Nat.pow_le_pow_right (n := 2) (by decide) z1) (by decide)
    · decide
  have hcr := CMPR_r hs7 wC
  have hsg : I 17 8 < 0 := by
    rcases wC with ⟨i, c1, c2, -⟩ | ⟨-, c2, -⟩
    · exfalso
      have c3 := hnd i (by omega)
      rw [c3] at c2; cases c2
    · omega
  refine lf_aload d_M_proof_27 rfl rfl ?_
  refine gi_geti s_M_proof_29 (c_17 hS) rfl ?_
  refine gi_if_lt d_M_proof_32 (tgt := 45) (by decide) (by omega) (fun hb32 => ?_) (fun hb32 => False.elim (by omega))
  refine lf_aload d_M_proof_45 rfl rfl ?_
  refine gi_geti s_M_proof_47 (c_17 hS) rfl ?_
  refine gw_iret d_M_proof_50 rfl ?_
  exact ⟨rfl, _, rfl, wC, rfl, wF, rfl⟩
theorem m_proof_t (hx : HX X L9 xs) {n s ni no w : Nat} {kd : Nat → Int} {pa pb fi dt : Nat → Nat} {ot : Nat → Nat → Nat} (hSH : SHC sh n s ni w) (hC : CLB I J n s ni no w kd pa pb fi dt ot) {a b : Nat} (ha : a < n) (hb : b < n) (inv : Bool) (hkz : ∀ i, 2 ^ s ≤ i → i < 64 * w → kbit J i = false) (hnd : ∃ i, i < 64 * w ∧ dbit J w a b inv i = true) : EVx X mi_M_proof 5 [.ref 0, .int (Int32.ofInt ((a : Nat) : Int)), .int (Int32.ofInt ((b : Nat) : Int)), .int (Int32.ofInt (bz inv))] sh I J "java/util/NoSuchElementException" (fun I1 J1 => (∀ x q, ¬ (x = 17 ∧ (q = 7 ∨ q = 8)) → I1 x q = I x q) ∧ J1 = J) := by
  obtain ⟨hM, hN, hH, hV, hA, hS, hT⟩ := hSH
  have hnt := hC.1
  have hnf := hC.2.2.1
  obtain ⟨hs, hw, hsw, he⟩ := hC.2.1
  obtain ⟨hi9, hi3⟩ := hC.2.2.2.2.2.2.1
  have h35 := hC.2.2.2.2.2.2.2.1
  have hn60 := hC.2.2.2.2.2.2.2.2
  obtain ⟨hn, hn2, hs7, hsn, hR, hsc, hso, hsk, hg⟩ := hnf
  have hnis := hnt.2.1
  have hp7 := pow2_7 hs7
  have hp0 := Nat.two_pow_pos s
  refine gw_enter (hx_ok hx) (by decide +kernel) (Nat.le_of_ble_eq_true rfl) (L := [(0, _), (1, _), (2, _), (3, _)]) rfl ?_
  refine lf_aload_n d_M_proof_0 rfl rfl rfl ?_
  refine lf_iload_n d_M_proof_1 rfl rfl ?_
  refine gw_callN s_M_proof_2 (m_mustBeLine hx hN hM hn hn2 (z := (a : Int)) (by omega) (by omega)) (S := []) rfl rfl (gcR_2 (c_0 hM)) (by decide) (by decide +kernel) (Nat.le_of_ble_eq_true rfl) ?_
  refine lf_aload_n d_M_proof_5 rfl rfl rfl ?_
  refine lf_iload_n d_M_proof_6 rfl rfl ?_
  refine gw_callN s_M_proof_7 (m_mustBeLine hx hN hM hn hn2 (z := (b : Int)) (by omega) (by omega)) (S := []) rfl rfl (gcR_2 (c_0 hM)) (by decide) (by decide +kernel) (Nat.le_of_ble_eq_true rfl) ?_
  refine lf_aload_n d_M_proof_10 rfl rfl rfl ?_
  refine gw_callP s_M_proof_11 (m_mustBeClosed hx hM) (S := []) rfl rfl (gcR_2 (c_0 hM)) (by decide) (by decide +kernel) (Nat.le_of_ble_eq_true rfl) ?_
  refine gi_getr s_M_proof_14 (c_14 hH) rfl ?_
  refine lf_astore d_M_proof_17 (by decide +kernel) rfl (L2 := [(4, _), (0, _), (1, _), (2, _), (3, _)]) rfl ?_
  refine lf_aload d_M_proof_19 rfl rfl ?_
  refine lf_iload_n d_M_proof_21 rfl rfl ?_
  refine lf_iload_n d_M_proof_22 rfl rfl ?_
  refine lf_iload_n d_M_proof_23 rfl rfl ?_
  refine gi_cmp s_M_proof_24 hx hS hV hn2 hs hw hsw ha hb inv hkz (S := []) rfl rfl (gcR_2 (c_17 hS)) (by decide) (by decide +kernel) (Nat.le_of_ble_eq_true rfl) (fun I wC wF => ?_)
  have hpw : 2 ^ s ≤ 64 * w := by
    rcases hsw with ⟨z1, rfl⟩ | ⟨rfl, rfl⟩
    · exact Nat.le_trans (Nat.pow_le_pow_right (n := 2) (by decide) z1) (by decide)
    · decide
  have hcr := CMPR_r hs7 wC
  have hsg : 0 ≤ I 17 8 := by
    rcases wC with ⟨i, c1, c2, c3, c4, -⟩ | ⟨c1, -⟩
    · omega
    · exfalso
      obtain ⟨i, z1, z2⟩ := hnd
      rw [c1 i z1] at z2; cases z2
  refine lf_aload d_M_proof_27 rfl rfl ?_
  refine gi_geti s_M_proof_29 (c_17 hS) rfl ?_
  refine gi_if_lt d_M_proof_32 (tgt := 45) (by decide) (by omega) (fun hb32 => False.elim (by omega)) (fun hb32 => ?_)
  refine gw_thr (s_M_proof_35 hx) (by decide) (Nat.le_of_ble_eq_true rfl) ?_
  exact ⟨_, _, _, rfl, rfl, rfl, wF, rfl⟩
theorem m_witness (hx : HX X L9 xs) {n s ni no w : Nat} {kd : Nat → Int} {pa pb fi dt : Nat → Nat} {ot : Nat → Nat → Nat} (hSH : SHC sh n s ni w) (hC : CLB I J n s ni no w kd pa pb fi dt ot) {a b : Nat} (ha : a < n) (hb : b < n) (inv : Bool) (hkz : ∀ i, 2 ^ s ≤ i → i < 64 * w → kbit J i = false) (hnd : ∃ i, i < 64 * w ∧ dbit J w a b inv i = true) : EVi TT cl6 X mi_M_witness 5 [.ref 0, .int (Int32.ofInt ((a : Nat) : Int)), .int (Int32.ofInt ((b : Nat) : Int)), .int (Int32.ofInt (bz inv))] sh I J (fun r I1 J1 => CMPR I1 J s w a b inv ∧ r = I1 17 8 ∧ (∀ x q, ¬ (x = 17 ∧ (q = 7 ∨ q = 8)) → I1 x q = I x q) ∧ J1 = J) := by
  obtain ⟨hM, hN, hH, hV, hA, hS, hT⟩ := hSH
  have hnt := hC.1
  have hnf := hC.2.2.1
  obtain ⟨hs, hw, hsw, he⟩ := hC.2.1
  obtain ⟨hi9, hi3⟩ := hC.2.2.2.2.2.2.1
  have h35 := hC.2.2.2.2.2.2.2.1
  have hn60 := hC.2.2.2.2.2.2.2.2
  obtain ⟨hn, hn2, hs7, hsn, hR, hsc, hso, hsk, hg⟩ := hnf
  have hnis := hnt.2.1
  have hp7 := pow2_7 hs7
  have hp0 := Nat.two_pow_pos s
  refine gw_enter (hx_ok hx) (by decide +kernel) (Nat.le_of_ble_eq_true rfl) (L := [(0, _), (1, _), (2, _), (3, _)]) rfl ?_
  refine lf_aload_n d_M_witness_0 rfl rfl rfl ?_
  refine lf_iload_n d_M_witness_1 rfl rfl ?_
  refine gw_callN s_M_witness_2 (m_mustBeLine hx hN hM hn hn2 (z := (a : Int)) (by omega) (by omega)) (S := []) rfl rfl (gcR_2 (c_0 hM)) (by decide) (by decide +kernel) (Nat.le_of_ble_eq_true rfl) ?_
  refine lf_aload_n d_M_witness_5 rfl rfl rfl ?_
  refine lf_iload_n d_M_witness_6 rfl rfl ?_
  refine gw_callN s_M_witness_7 (m_mustBeLine hx hN hM hn hn2 (z := (b : Int)) (by omega) (by omega)) (S := []) rfl rfl (gcR_2 (c_0 hM)) (by decide) (by decide +kernel) (Nat.le_of_ble_eq_true rfl) ?_
  refine lf_aload_n d_M_witness_10 rfl rfl rfl ?_
  refine gw_callP s_M_witness_11 (m_mustBeClosed hx hM) (S := []) rfl rfl (gcR_2 (c_0 hM)) (by decide) (by decide +kernel) (Nat.le_of_ble_eq_true rfl) ?_
  refine gi_getr s_M_witness_14 (c_14 hH) rfl ?_
  refine lf_astore d_M_witness_17 (by decide +kernel) rfl (L2 := [(4, _), (0, _), (1, _), (2, _), (3, _)]) rfl ?_
  refine lf_aload d_M_witness_19 rfl rfl ?_
  refine lf_iload_n d_M_witness_21 rfl rfl ?_
  refine lf_iload_n d_M_witness_22 rfl rfl ?_
  refine lf_iload_n d_M_witness_23 rfl rfl ?_
  refine gi_cmp s_M_witness_24 hx hS hV hn2 hs hw hsw ha hb inv hkz (S := []) rfl rfl (gcR_2 (c_17 hS)) (by decide) (by decide +kernel) (Nat.le_of_ble_eq_true rfl) (fun I wC wF => ?_)
  have hpw : 2 ^ s ≤ 64 * w := by
    rcases hsw with ⟨z1, rfl⟩ | ⟨rfl, rfl⟩
    · exact Nat.le_trans (Nat.pow_le_pow_right (n := 2) (by decide) z1) (by decide)
    · decide
  have hcr := CMPR_r hs7 wC
  have hsg : 0 ≤ I 17 8 := by
    rcases wC with ⟨i, c1, c2, c3, c4, -⟩ | ⟨c1, -⟩
    · omega
    · exfalso
      obtain ⟨i, z1, z2⟩ := hnd
      rw [c1 i z1] at z2; cases z2
  refine lf_aload d_M_witness_27 rfl rfl ?_
  refine gi_geti s_M_witness_29 (c_17 hS) rfl ?_
  refine gi_if_ge d_M_witness_32 (tgt := 45) (by decide) (by omega) (fun hb32 => ?_) (fun hb32 => False.elim (by omega))
  refine lf_aload d_M_witness_45 rfl rfl ?_
  refine gi_geti s_M_witness_47 (c_17 hS) rfl ?_
  refine gw_iret d_M_witness_50 rfl ?_
  exact ⟨rfl, _, rfl, wC, rfl, wF, rfl⟩
theorem m_witness_t (hx : HX X L9 xs) {n s ni no w : Nat} {kd : Nat → Int} {pa pb fi dt : Nat → Nat} {ot : Nat → Nat → Nat} (hSH : SHC sh n s ni w) (hC : CLB I J n s ni no w kd pa pb fi dt ot) {a b : Nat} (ha : a < n) (hb : b < n) (inv : Bool) (hkz : ∀ i, 2 ^ s ≤ i → i < 64 * w → kbit J i = false) (hnd : ∀ i, i < 64 * w → dbit J w a b inv i = false) : EVx X mi_M_witness 5 [.ref 0, .int (Int32.ofInt ((a : Nat) : Int)), .int (Int32.ofInt ((b : Nat) : Int)), .int (Int32.ofInt (bz inv))] sh I J "java/util/NoSuchElementException" (fun I1 J1 => (∀ x q, ¬ (x = 17 ∧ (q = 7 ∨ q = 8)) → I1 x q = I x q) ∧ J1 = J) := by
  obtain ⟨hM, hN, hH, hV, hA, hS, hT⟩ := hSH
  have hnt := hC.1
  have hnf := hC.2.2.1
  obtain ⟨hs, hw, hsw, he⟩ := hC.2.1
  obtain ⟨hi9, hi3⟩ := hC.2.2.2.2.2.2.1
  have h35 := hC.2.2.2.2.2.2.2.1
  have hn60 := hC.2.2.2.2.2.2.2.2
  obtain ⟨hn, hn2, hs7, hsn, hR, hsc, hso, hsk, hg⟩ := hnf
  have hnis := hnt.2.1
  have hp7 := pow2_7 hs7
  have hp0 := Nat.two_pow_pos s
  refine gw_enter (hx_ok hx) (by decide +kernel) (Nat.le_of_ble_eq_true rfl) (L := [(0, _), (1, _), (2, _), (3, _)]) rfl ?_
  refine lf_aload_n d_M_witness_0 rfl rfl rfl ?_
  refine lf_iload_n d_M_witness_1 rfl rfl ?_
  refine gw_callN s_M_witness_2 (m_mustBeLine hx hN hM hn hn2 (z := (a : Int)) (by omega) (by omega)) (S := []) rfl rfl (gcR_2 (c_0 hM)) (by decide) (by decide +kernel) (Nat.le_of_ble_eq_true rfl) ?_
  refine lf_aload_n d_M_witness_5 rfl rfl rfl ?_
  refine lf_iload_n d_M_witness_6 rfl rfl ?_
  refine gw_callN s_M_witness_7 (m_mustBeLine hx hN hM hn hn2 (z := (b : Int)) (by omega) (by omega)) (S := []) rfl rfl (gcR_2 (c_0 hM)) (by decide) (by decide +kernel) (Nat.le_of_ble_eq_true rfl) ?_
  refine lf_aload_n d_M_witness_10 rfl rfl rfl ?_
  refine gw_callP s_M_witness_11 (m_mustBeClosed hx hM) (S := []) rfl rfl (gcR_2 (c_0 hM)) (by decide) (by decide +kernel) (Nat.le_of_ble_eq_true rfl) ?_
  refine gi_getr s_M_witness_14 (c_14 hH) rfl ?_
  refine lf_astore d_M_witness_17 (by decide +kernel) rfl (L2 := [(4, _), (0, _), (1, _), (2, _), (3, _)]) rfl ?_
  refine lf_aload d_M_witness_19 rfl rfl ?_
  refine lf_iload_n d_M_witness_21 rfl rfl ?_
  refine lf_iload_n d_M_witness_22 rfl rfl ?_
  refine lf_iload_n d_M_witness_23 rfl rfl ?_
  refine gi_cmp s_M_witness_24 hx hS hV hn2 hs hw hsw ha hb inv hkz (S := []) rfl rfl (gcR_2 (c_17 hS)) (by decide) (by decide +kernel) (Nat.le_of_ble_eq_true rfl) (fun I wC wF => ?_)
  have hpw : 2 ^ s ≤ 64 * w := by
    rcases hsw with ⟨z1, rfl⟩ | ⟨rfl, rfl⟩
    · exact Nat.le_trans (Nat.pow_le_pow_right (n := 2) (by decide) z1) (by decide)
    · decide
  have hcr := CMPR_r hs7 wC
  have hsg : I 17 8 < 0 := by
    rcases wC with ⟨i, c1, c2, -⟩ | ⟨-, c2, -⟩
    · exfalso
      have c3 := hnd i (by omega)
      rw [c3] at c2; cases c2
    · omega
  refine lf_aload d_M_witness_27 rfl rfl ?_
  refine gi_geti s_M_witness_29 (c_17 hS) rfl ?_
  refine gi_if_ge d_M_witness_32 (tgt := 45) (by decide) (by omega) (fun hb32 => False.elim (by omega)) (fun hb32 => ?_)
  refine gw_thr (s_M_witness_35 hx) (by decide) (Nat.le_of_ble_eq_true rfl) ?_
  exact ⟨_, _, _, rfl, rfl, rfl, wF, rfl⟩
theorem m_patterns (hx : HX X L9 xs) {n s ni no w : Nat} {kd : Nat → Int} {pa pb fi dt : Nat → Nat} {ot : Nat → Nat → Nat} (hSH : SHC sh n s ni w) (hC : CLB I J n s ni no w kd pa pb fi dt ot)  : EVp TT cl6 X mi_M_patterns 0 [.ref 0] sh I J (.int (Int32.ofInt (I 17 4))) := by
  obtain ⟨hM, hN, hH, hV, hA, hS, hT⟩ := hSH
  have hnt := hC.1
  have hnf := hC.2.2.1
  obtain ⟨hs, hw, hsw, he⟩ := hC.2.1
  obtain ⟨hi9, hi3⟩ := hC.2.2.2.2.2.2.1
  have h35 := hC.2.2.2.2.2.2.2.1
  have hn60 := hC.2.2.2.2.2.2.2.2
  obtain ⟨hn, hn2, hs7, hsn, hR, hsc, hso, hsk, hg⟩ := hnf
  have hnis := hnt.2.1
  have hp7 := pow2_7 hs7
  have hp0 := Nat.two_pow_pos s
  refine gw_enter (hx_ok hx) (by decide +kernel) (Nat.le_of_ble_eq_true rfl) (L := [(0, _)]) rfl ?_
  refine lf_aload_n d_M_patterns_0 rfl rfl rfl ?_
  refine gi_getr s_M_patterns_1 (c_0 hM) rfl ?_
  refine lf_ifnonnull_r d_M_patterns_4 (tgt := 11) (by decide) rfl ?_
  refine lf_aload_n d_M_patterns_11 rfl rfl rfl ?_
  refine gi_getr s_M_patterns_12 (c_0 hM) rfl ?_
  refine gi_getr s_M_patterns_15 (c_14 hH) rfl ?_
  refine gi_geti s_M_patterns_18 (c_17 hS) rfl ?_
  refine gw_iret d_M_patterns_21 rfl ?_
  exact ⟨rfl, rfl, rfl, rfl⟩
end MC2
