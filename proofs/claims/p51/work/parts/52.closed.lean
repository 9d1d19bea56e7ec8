section HT1
variable {X : XT} {L9 : Nat} {xs : Nat → Int32} {sh : sM} {I : mI} {J : mJ}

variable {D : mF} {P : Option Value → mF → Prop} {PX : String → mF → Prop} {kc ks : Nat}

def KDq (kd : Int) : Prop := kd = 97 ∨ kd = 110 ∨ kd = 111 ∨ kd = 114 ∨ kd = 120 ∨ kd = 118 ∨ kd = 98
theorem lb_gOne {kd : Int} (h : KDq kd) {a b : Int64} {i : Nat} (hi : i < 64) : lb (gOne kd a (a ^^^ -1) b (b ^^^ -1)) i = gB kd (lb a i) (lb b i) := by
  rcases h with rfl | rfl | rfl | rfl | rfl | rfl | rfl
  · show lb (a &&& b) i = _
    rw [lb_and]; rfl
  · show lb (a ^^^ -1 ||| b ^^^ -1) i = _
    rw [lb_or, lb_not hi, lb_not hi]
    show (!lb a i || !lb b i) = !(lb a i && lb b i)
    cases lb a i <;> cases lb b i <;> rfl
  · show lb (a ||| b) i = _
    rw [lb_or]; rfl
  · show lb ((a ^^^ -1) &&& (b ^^^ -1)) i = _
    rw [lb_and, lb_not hi, lb_not hi]
    show (!lb a i && !lb b i) = !(lb a i || lb b i)
    cases lb a i <;> cases lb b i <;> rfl
  · show lb (a &&& (b ^^^ -1) ||| (a ^^^ -1) &&& b) i = _
    rw [lb_or, lb_and, lb_and, lb_not hi, lb_not hi]
    show (lb a i && !lb b i || !lb a i && lb b i) = (lb a i ^^ lb b i)
    cases lb a i <;> cases lb b i <;> rfl
  · show lb (a ^^^ -1) i = _
    rw [lb_not hi]; rfl
  · rfl
/-- the bits of the words that the lines have -/
def HW (J : mJ) (s n w : Nat) (kd : Nat → Int) (pa pb : Nat → Nat) : Prop := ∀ k, k < n → ∀ u, u < w → ∀ i, i < 64 → lb (J 26 (k * w + u)) i = (lb (evr s) i && bvl s kd pa pb (fun j => lb (hS s j u) i) n k)
theorem HW_of {n s w : Nat} {pa pb : Nat → Nat} (hg : ∀ j, s ≤ j → j < n → KDq (I 3 j) ∧ pa j < j ∧ pb j < j) (h : ∀ j, j < n → REC I s w pa pb J j) : HW J s n w (fun j => I 3 j) pa pb := by
  have main : ∀ m k, k < m → k < n → ∀ u, u < w → ∀ i, i < 64 → lb (J 26 (k * w + u)) i = (lb (evr s) i && bvl s (fun j => I 3 j) pa pb (fun j => lb (hS s j u) i) n k) := by
    intro m
    induction m with
    | zero => intro k hk; omega
    | succ m ih =>
      intro k hk hkn u hu i hi
      rcases Nat.lt_or_ge k s with q | q
      · rw [((h k hkn).1 q u hu).1, bvl_src q hkn]
        unfold hS
        rw [lb_and]
        cases lb (boi (s - 1 - k) u) i <;> cases lb (evr s) i <;> rfl
      · have g := hg k q hkn
        rw [((h k hkn).2 q u hu).1, lb_and, lb_gOne g.1 hi, bvl_gate q hkn g.2.1 g.2.2, ih (pa k) (by omega) (by omega) u hu i hi, ih (pb k) (by omega) (by omega) u hu i hi]
        cases lb (evr s) i
        · rw [Bool.and_false, Bool.false_and]
        · rw [Bool.true_and, Bool.true_and, Bool.and_true, Bool.true_and]
  exact fun k hk => main (k + 1) k (Nat.lt_succ_self k) hk
/-- the literals of the lines -/
def LN (I : mI) (s n m : Nat) (lo hi lt : Nat → Nat) (kd : Nat → Int) (pa pb : Nat → Nat) : Prop := AI I s m lo hi ∧ ∀ j, j < n → I 33 j = lt j ∧ lt j < 2 * m ∧ ∀ src, lit (ndv s lo hi src m) (lt j) = bvl s kd pa pb src n j
def lwd (J : mJ) (x : Nat) : Int64 := if x % 2 = 1 then J 25 (x / 2) ^^^ Int64.ofInt (-1) else J 25 (x / 2)
theorem lb_lwd {v : Nat → Bool} {x i : Nat} (hi : i < 64) (h : lb (J 25 (x / 2)) i = v (x / 2)) : lb (lwd J x) i = lit v x := by
  unfold lwd lit
  by_cases q : x % 2 = 1
  · rw [if_pos q, decide_eq_true q, show Int64.ofInt (-1) = -1 from rfl, lb_not hi, h]
    cases v (x / 2) <;> rfl
  · rw [if_neg q, decide_eq_false q, h]
    cases v (x / 2) <;> rfl
theorem h_literalWord (hx : HX X L9 xs) (hH : clH sh) {x : Nat} (hx2 : x < 512) : EVp TT cl6 X mi_H_literalWord 1 [.ref 14, .int (Int32.ofInt ((x : Nat) : Int))] sh I J (.long (lwd J x)) := by
  refine gw_enter (hx_ok hx) (by decide +kernel) (Nat.le_of_ble_eq_true rfl) (L := [(0, _), (1, _)]) rfl ?_
  unfold lwd
  by_cases q : x % 2 = 1
  · rw [if_pos q]
    refine lf_aload_n d_H_literalWord_0 rfl rfl rfl ?_
    refine gi_getr s_H_literalWord_1 (c_14 hH) rfl ?_
    refine lf_iload_n d_H_literalWord_4 rfl rfl ?_
    refine lf_iconst d_H_literalWord_5 (v := Int32.ofInt ((1 : Nat) : Int)) rfl ?_
    refine gi_ishrN (a := x) (s := 1) d_H_literalWord_6 (by omega) (by omega) ?_
    refine gi_top (show ((x / 2 ^ 1 : Nat) : Int) = ((x / 2 : Nat) : Int) from rfl) ?_
    refine gw_callP s_H_literalWord_7 (m_wordAtN hx (c_25 hH) (by omega)) (S := []) rfl rfl gcR_4 (by decide) (by decide +kernel) (Nat.le_of_ble_eq_true rfl) ?_
    refine lf_lstore_n d_H_literalWord_10 rfl (by decide +kernel) (L2 := [(2, _), (0, _), (1, _)]) rfl ?_
    refine lf_iload_n d_H_literalWord_11 rfl rfl ?_
    refine lf_iconst d_H_literalWord_12 (v := Int32.ofInt ((1 : Nat) : Int)) rfl ?_
    refine gi_iandN (a := x) (b := 1) d_H_literalWord_13 ?_
    refine gi_top (show ((x &&& 1 : Nat) : Int) = ((x % 2 : Nat) : Int) from congrArg (fun z : Nat => (z : Int)) (Nat.and_one_is_mod x)) ?_
    refine lf_iconst d_H_literalWord_14 (v := Int32.ofInt ((1 : Nat) : Int)) rfl ?_
    refine gi_icmp_ne d_H_literalWord_15 (tgt := 26) (by decide) (by omega) (fun hb15 => False.elim (by omega)) (fun hb15 => ?_)
    refine lf_lload_n d_H_literalWord_18 rfl rfl ?_
    refine gi_pushl s_H_literalWord_19 ?_
    refine lf_lxor d_H_literalWord_22 ?_
    refine lf_goto d_H_literalWord_23 (tgt := 27) (by decide) ?_
    refine gw_lret d_H_literalWord_27 rfl ?_
    exact ⟨rfl, rfl, rfl, rfl⟩
  · rw [if_neg q]
    refine lf_aload_n d_H_literalWord_0 rfl rfl rfl ?_
    refine gi_getr s_H_literalWord_1 (c_14 hH) rfl ?_
    refine lf_iload_n d_H_literalWord_4 rfl rfl ?_
    refine lf_iconst d_H_literalWord_5 (v := Int32.ofInt ((1 : Nat) : Int)) rfl ?_
    refine gi_ishrN (a := x) (s := 1) d_H_literalWord_6 (by omega) (by omega) ?_
    refine gi_top (show ((x / 2 ^ 1 : Nat) : Int) = ((x / 2 : Nat) : Int) from rfl) ?_
    refine gw_callP s_H_literalWord_7 (m_wordAtN hx (c_25 hH) (by omega)) (S := []) rfl rfl gcR_4 (by decide) (by decide +kernel) (Nat.le_of_ble_eq_true rfl) ?_
    refine lf_lstore_n d_H_literalWord_10 rfl (by decide +kernel) (L2 := [(2, _), (0, _), (1, _)]) rfl ?_
    refine lf_iload_n d_H_literalWord_11 rfl rfl ?_
    refine lf_iconst d_H_literalWord_12 (v := Int32.ofInt ((1 : Nat) : Int)) rfl ?_
    refine gi_iandN (a := x) (b := 1) d_H_literalWord_13 ?_
    refine gi_top (show ((x &&& 1 : Nat) : Int) = ((x % 2 : Nat) : Int) from congrArg (fun z : Nat => (z : Int)) (Nat.and_one_is_mod x)) ?_
    refine lf_iconst d_H_literalWord_14 (v := Int32.ofInt ((1 : Nat) : Int)) rfl ?_
    refine gi_icmp_ne d_H_literalWord_15 (tgt := 26) (by decide) (by omega) (fun hb15 => ?_) (fun hb15 => False.elim (by omega))
    refine lf_lload_n d_H_literalWord_26 rfl rfl ?_
    refine gw_lret d_H_literalWord_27 rfl ?_
    exact ⟨rfl, rfl, rfl, rfl⟩
theorem h_al_n (hx : HX X L9 xs) (hN : clN sh) (hA : clA sh) (hH : clH sh) {n w s m : Nat} {lo hi lt : Nat → Nat} {kd : Nat → Int} {pa pb : Nat → Nat} (hV : clV sh n w) (hn2 : n ≤ 80) (hw2 : w ≤ 2) (hw : I 15 2 = w) (hn : I 1 11 = n) (hs7 : s ≤ 7) (hsn : s ≤ n) (hso : ∀ j, j < s → I 12 j = j) (he : J 15 3 = evr s) (hL : LN I s n m lo hi lt kd pa pb) (hW : HW J s n w kd pa pb) (hS9 : ∀ j u, j < s → u < w → J 26 (j * w + u) = hS s j u) {u : Nat} (hu : u < w) (k93 : ∀ J1 : mJ, (∀ a, ¬ a = 25 → J1 a = J a) ∧ (∀ j, j < m → ∀ i, i < 64 → lb (J1 25 j) i = ndv s lo hi (fun j => lb (hS s j u) i) m j) → LXf TT cl6 X mi_H_areLinesLiterals (40 + 2) (1000 + 200 * 2) D P PX kc ks 93 [(0, .ref 14), (1, .int (Int32.ofInt ((u : Nat) : Int)))] [] (hp sh I J1)) : ∀ (d k : Nat) (J1 : mJ), k + d = m → (∀ a, ¬ a = 25 → J1 a = J a) ∧ (∀ j, j < k → ∀ i, i < 64 → lb (J1 25 j) i = ndv s lo hi (fun j => lb (hS s j u) i) m j) → LXf TT cl6 X mi_H_areLinesLiterals (40 + 2) (1000 + 200 * 2) D P PX kc ks 2 [(2, .int (Int32.ofInt ((k : Nat) : Int))), (0, .ref 14), (1, .int (Int32.ofInt ((u : Nat) : Int)))] [] (hp sh I J1) := by
  obtain ⟨hAI, hlt⟩ := hL
  have hm1 := hAI.2.2.1
  have hm2 := hAI.2.2.2.1
  have hm5 := hAI.2.1
  intro d
  induction d with
  | zero =>
    intro k J1 hd h
    obtain rfl : k = m := by omega
    refine lf_iload_n d_H_areLinesLiterals_2 rfl rfl ?_
    refine lf_aload_n d_H_areLinesLiterals_3 rfl rfl rfl ?_
    refine gi_getr s_H_areLinesLiterals_4 (c_14 hH) rfl ?_
    refine gi_geti s_H_areLinesLiterals_7 (c_16 hA) rfl ?_
    refine gi_top hm5 ?_
    refine gi_icmp_ge d_H_areLinesLiterals_10 (tgt := 93) (by decide) (by omega) (fun hb10 => ?_) (fun hb10 => False.elim (by omega))
    refine lf_sub [1, 2] rfl ?_
    exact k93 J1 h
  | succ d ih =>
    intro k J1 hd h
    have hkm : k < m := by omega
    by_cases hA1 : s < k ∧ k < m
    · have hp := hAI.2.2.2.2.2.2 k hA1.1 hkm
      have hv1 := (hAI.2.2.2.2.1 k hkm).1
      have hv2 := (hAI.2.2.2.2.1 k hkm).2
      refine lf_iload_n d_H_areLinesLiterals_2 rfl rfl ?_
      refine lf_aload_n d_H_areLinesLiterals_3 rfl rfl rfl ?_
      refine gi_getr s_H_areLinesLiterals_4 (c_14 hH) rfl ?_
      refine gi_geti s_H_areLinesLiterals_7 (c_16 hA) rfl ?_
      refine gi_top hm5 ?_
      refine gi_icmp_ge d_H_areLinesLiterals_10 (tgt := 93) (by decide) (by omega) (fun hb10 => False.elim (by omega)) (fun hb10 => ?_)
      refine lf_lconst d_H_areLinesLiterals_13 rfl ?_
      refine lf_lstore_n d_H_areLinesLiterals_14 rfl (by decide +kernel) (L2 := [(3, _), (2, _), (0, _), (1, _)]) rfl ?_
      refine lf_aload_n d_H_areLinesLiterals_15 rfl rfl rfl ?_
      refine gi_getr s_H_areLinesLiterals_16 (c_14 hH) rfl ?_
      refine lf_iload_n d_H_areLinesLiterals_19 rfl rfl ?_
      refine gw_callP s_H_areLinesLiterals_20 (a_isAnd hx hA hAI (by omega)) (S := []) rfl rfl (gcR_2 (c_16 hA)) (by decide) (by decide +kernel) (Nat.le_of_ble_eq_true rfl) ?_
      refine gi_top (show (if s < k ∧ k < m then 1 else 0 : Int) = ((1 : Nat) : Int) from if_pos hA1) ?_
      refine gi_if_eq d_H_areLinesLiterals_23 (tgt := 55) (by decide) (by omega) (fun hb23 => False.elim (by omega)) (fun hb23 => ?_)
      refine lf_aload_n d_H_areLinesLiterals_26 rfl rfl rfl ?_
      refine lf_aload_n d_H_areLinesLiterals_27 rfl rfl rfl ?_
      refine gi_getr s_H_areLinesLiterals_28 (c_14 hH) rfl ?_
      refine lf_iload_n d_H_areLinesLiterals_31 rfl rfl ?_
      refine gw_callP s_H_areLinesLiterals_32 (a_lesserPin hx hA (by omega) hv1) (S := [_]) rfl rfl (gcR_2 (c_16 hA)) (by decide) (by decide +kernel) (Nat.le_of_ble_eq_true rfl) ?_
      refine gw_callP s_H_areLinesLiterals_35 (h_literalWord hx hH (x := lo k) (by omega)) (S := []) rfl rfl (gcR_2 (c_14 hH)) (by decide) (by decide +kernel) (Nat.le_of_ble_eq_true rfl) ?_
      refine lf_aload_n d_H_areLinesLiterals_38 rfl rfl rfl ?_
      refine lf_aload_n d_H_areLinesLiterals_39 rfl rfl rfl ?_
      refine gi_getr s_H_areLinesLiterals_40 (c_14 hH) rfl ?_
      refine lf_iload_n d_H_areLinesLiterals_43 rfl rfl ?_
      refine gw_callP s_H_areLinesLiterals_44 (a_greaterPin hx hA (by omega) hv2) (S := [_, _]) rfl rfl (gcR_2 (c_16 hA)) (by decide) (by decide +kernel) (Nat.le_of_ble_eq_true rfl) ?_
      refine gw_callP s_H_areLinesLiterals_47 (h_literalWord hx hH (x := hi k) (by omega)) (S := [_]) rfl rfl (gcR_2 (c_14 hH)) (by decide) (by decide +kernel) (Nat.le_of_ble_eq_true rfl) ?_
      refine lf_land d_H_areLinesLiterals_50 ?_
      refine lf_lstore_n d_H_areLinesLiterals_51 rfl (by decide +kernel) (L2 := [(3, _), (2, _), (0, _), (1, _)]) rfl ?_
      refine lf_goto d_H_areLinesLiterals_52 (tgt := 78) (by decide) ?_
      refine lf_aload_n d_H_areLinesLiterals_78 rfl rfl rfl ?_
      refine gi_getr s_H_areLinesLiterals_79 (c_14 hH) rfl ?_
      refine lf_iload_n d_H_areLinesLiterals_82 rfl rfl ?_
      refine lf_lload_n d_H_areLinesLiterals_83 rfl rfl ?_
      refine gw_callV s_H_areLinesLiterals_84 (m_putWordN hx (c_25 hH) (by omega)) (S := []) rfl rfl gcR_4 (by decide) (by decide +kernel) (Nat.le_of_ble_eq_true rfl) (fun I J w84 => ?_)
      obtain ⟨rfl, rfl⟩ := w84
      refine gi_iincN d_H_areLinesLiterals_87 rfl (by decide +kernel) (L2 := [(2, _), (3, _), (0, _), (1, _)]) rfl ?_
      refine lf_goto d_H_areLinesLiterals_90 (tgt := 2) (by decide) ?_
      refine lf_sub [0, 2, 3] rfl ?_
      refine ih (k + 1) _ (by omega) ⟨fun a ha => by rw [jpt_o ha]; exact h.1 a ha, fun j hj i hi9 => ?_⟩
      rw [jpt_s]
      by_cases q : j = k
      · rw [if_pos q, q]
        rw [lb_and, lb_lwd hi9 (h.2 _ (by omega) i hi9), lb_lwd hi9 (h.2 _ (by omega) i hi9), ndv_and hA1.1 hkm hp.1 hp.2]
      · rw [if_neg q]; exact h.2 j (by omega) i hi9
    · by_cases hk0 : k = 0
      · subst hk0
        refine lf_iload_n d_H_areLinesLiterals_2 rfl rfl ?_
        refine lf_aload_n d_H_areLinesLiterals_3 rfl rfl rfl ?_
        refine gi_getr s_H_areLinesLiterals_4 (c_14 hH) rfl ?_
        refine gi_geti s_H_areLinesLiterals_7 (c_16 hA) rfl ?_
        refine gi_top hm5 ?_
        refine gi_icmp_ge d_H_areLinesLiterals_10 (tgt := 93) (by decide) (by omega) (fun hb10 => False.elim (by omega)) (fun hb10 => ?_)
        refine lf_lconst d_H_areLinesLiterals_13 rfl ?_
        refine lf_lstore_n d_H_areLinesLiterals_14 rfl (by decide +kernel) (L2 := [(3, _), (2, _), (0, _), (1, _)]) rfl ?_
        refine lf_aload_n d_H_areLinesLiterals_15 rfl rfl rfl ?_
        refine gi_getr s_H_areLinesLiterals_16 (c_14 hH) rfl ?_
        refine lf_iload_n d_H_areLinesLiterals_19 rfl rfl ?_
        refine gw_callP s_H_areLinesLiterals_20 (a_isAnd hx hA hAI (by omega)) (S := []) rfl rfl (gcR_2 (c_16 hA)) (by decide) (by decide +kernel) (Nat.le_of_ble_eq_true rfl) ?_
        refine gi_top (show (if s < 0 ∧ 0 < m then 1 else 0 : Int) = ((0 : Nat) : Int) from if_neg hA1) ?_
        refine gi_if_eq d_H_areLinesLiterals_23 (tgt := 55) (by decide) (by omega) (fun hb23 => ?_) (fun hb23 => False.elim (by omega))
        refine lf_iload_n d_H_areLinesLiterals_55 rfl rfl ?_
        refine gi_if_le d_H_areLinesLiterals_56 (tgt := 78) (by decide) (by omega) (fun hb56 => ?_) (fun hb56 => False.elim (by omega))
        refine lf_aload_n d_H_areLinesLiterals_78 rfl rfl rfl ?_
        refine gi_getr s_H_areLinesLiterals_79 (c_14 hH) rfl ?_
        refine lf_iload_n d_H_areLinesLiterals_82 rfl rfl ?_
        refine lf_lload_n d_H_areLinesLiterals_83 rfl rfl ?_
        refine gw_callV s_H_areLinesLiterals_84 (m_putWordN hx (c_25 hH) (by omega)) (S := []) rfl rfl gcR_4 (by decide) (by decide +kernel) (Nat.le_of_ble_eq_true rfl) (fun I J w84 => ?_)
        obtain ⟨rfl, rfl⟩ := w84
        refine gi_iincN d_H_areLinesLiterals_87 rfl (by decide +kernel) (L2 := [(2, _), (3, _), (0, _), (1, _)]) rfl ?_
        refine lf_goto d_H_areLinesLiterals_90 (tgt := 2) (by decide) ?_
        refine lf_sub [0, 2, 3] rfl ?_
        refine ih (0 + 1) _ (by omega) ⟨fun a ha => by rw [jpt_o ha]; exact h.1 a ha, fun j hj i hi9 => ?_⟩
        rw [jpt_s]
        by_cases q : j = 0
        · rw [if_pos q, q]
          rw [ndv_0]; exact lb_0 i
        · rw [if_neg q]; exact h.2 j (by omega) i hi9
      · obtain ⟨k, rfl⟩ : ∃ k1, k = k1 + 1 := ⟨k - 1, by omega⟩
        have hks : k < s := by omega
        have hsk := hso k hks
        refine lf_iload_n d_H_areLinesLiterals_2 rfl rfl ?_
        refine lf_aload_n d_H_areLinesLiterals_3 rfl rfl rfl ?_
        refine gi_getr s_H_areLinesLiterals_4 (c_14 hH) rfl ?_
        refine gi_geti s_H_areLinesLiterals_7 (c_16 hA) rfl ?_
        refine gi_top hm5 ?_
        refine gi_icmp_ge d_H_areLinesLiterals_10 (tgt := 93) (by decide) (by omega) (fun hb10 => False.elim (by omega)) (fun hb10 => ?_)
        refine lf_lconst d_H_areLinesLiterals_13 rfl ?_
        refine lf_lstore_n d_H_areLinesLiterals_14 rfl (by decide +kernel) (L2 := [(3, _), (2, _), (0, _), (1, _)]) rfl ?_
        refine lf_aload_n d_H_areLinesLiterals_15 rfl rfl rfl ?_
        refine gi_getr s_H_areLinesLiterals_16 (c_14 hH) rfl ?_
        refine lf_iload_n d_H_areLinesLiterals_19 rfl rfl ?_
        refine gw_callP s_H_areLinesLiterals_20 (a_isAnd hx hA hAI (by omega)) (S := []) rfl rfl (gcR_2 (c_16 hA)) (by decide) (by decide +kernel) (Nat.le_of_ble_eq_true rfl) ?_
        refine gi_top (show (if s < k + 1 ∧ k + 1 < m then 1 else 0 : Int) = ((0 : Nat) : Int) from if_neg hA1) ?_
        refine gi_if_eq d_H_areLinesLiterals_23 (tgt := 55) (by decide) (by omega) (fun hb23 => ?_) (fun hb23 => False.elim (by omega))
        refine lf_iload_n d_H_areLinesLiterals_55 rfl rfl ?_
        refine gi_if_le d_H_areLinesLiterals_56 (tgt := 78) (by decide) (by omega) (fun hb56 => False.elim (by omega)) (fun hb56 => ?_)
        refine lf_aload_n d_H_areLinesLiterals_59 rfl rfl rfl ?_
        refine gi_getr s_H_areLinesLiterals_60 (c_14 hH) rfl ?_
        refine lf_aload_n d_H_areLinesLiterals_63 rfl rfl rfl ?_
        refine gi_getr s_H_areLinesLiterals_64 (c_14 hH) rfl ?_
        refine lf_iload_n d_H_areLinesLiterals_67 rfl rfl ?_
        refine lf_iconst d_H_areLinesLiterals_68 (v := Int32.ofInt ((1 : Nat) : Int)) rfl ?_
        refine gi_isub d_H_areLinesLiterals_69 ?_
        refine gi_top (show ((k + 1 : Nat) : Int) - ((1 : Nat) : Int) = ((k : Nat) : Int) from by omega) ?_
        refine gw_callP s_H_areLinesLiterals_70 (n_sourceLine hx hN (k := k) (by omega)) (S := [_]) rfl rfl (gcR_2 (c_1 hN)) (by decide) (by decide +kernel) (Nat.le_of_ble_eq_true rfl) ?_
        refine gi_top hsk ?_
        refine lf_iload_n d_H_areLinesLiterals_73 rfl rfl ?_
        refine gw_callP s_H_areLinesLiterals_74 (v_heldWord hx hV hn2 hw2 hw (k := k) (u := u) (by omega) hu) (S := []) rfl rfl (gcR_2 (c_15 hV)) (by decide) (by decide +kernel) (Nat.le_of_ble_eq_true rfl) ?_
        refine lf_lstore_n d_H_areLinesLiterals_77 rfl (by decide +kernel) (L2 := [(3, _), (2, _), (0, _), (1, _)]) rfl ?_
        refine lf_aload_n d_H_areLinesLiterals_78 rfl rfl rfl ?_
        refine gi_getr s_H_areLinesLiterals_79 (c_14 hH) rfl ?_
        refine lf_iload_n d_H_areLinesLiterals_82 rfl rfl ?_
        refine lf_lload_n d_H_areLinesLiterals_83 rfl rfl ?_
        refine gw_callV s_H_areLinesLiterals_84 (m_putWordN hx (c_25 hH) (by omega)) (S := []) rfl rfl gcR_4 (by decide) (by decide +kernel) (Nat.le_of_ble_eq_true rfl) (fun I J w84 => ?_)
        obtain ⟨rfl, rfl⟩ := w84
        refine gi_iincN d_H_areLinesLiterals_87 rfl (by decide +kernel) (L2 := [(2, _), (3, _), (0, _), (1, _)]) rfl ?_
        refine lf_goto d_H_areLinesLiterals_90 (tgt := 2) (by decide) ?_
        refine lf_sub [0, 2, 3] rfl ?_
        refine ih (k + 1 + 1) _ (by omega) ⟨fun a ha => by rw [jpt_o ha]; exact h.1 a ha, fun j hj i hi9 => ?_⟩
        rw [jpt_s]
        by_cases q : j = k + 1
        · rw [if_pos q, q]
          rw [ndv_src hks (by omega), h.1 26 (by decide), hS9 k u hks hu]
        · rw [if_neg q]; exact h.2 j (by omega) i hi9
theorem h_al_l (hx : HX X L9 xs) (hN : clN sh) (hA : clA sh) (hH : clH sh) {n w s m : Nat} {lo hi lt : Nat → Nat} {kd : Nat → Int} {pa pb : Nat → Nat} (hV : clV sh n w) (hn2 : n ≤ 80) (hw2 : w ≤ 2) (hw : I 15 2 = w) (hn : I 1 11 = n) (hs7 : s ≤ 7) (hsn : s ≤ n) (hso : ∀ j, j < s → I 12 j = j) (he : J 15 3 = evr s) (hL : LN I s n m lo hi lt kd pa pb) (hW : HW J s n w kd pa pb) (hS9 : ∀ j u, j < s → u < w → J 26 (j * w + u) = hS s j u) {u : Nat} (hu : u < w) (h9 : ∀ j, j < m → ∀ i, i < 64 → lb (J 25 j) i = ndv s lo hi (fun j => lb (hS s j u) i) m j) (hret : P (some (.int (Int32.ofInt (((1 : Nat) : Int))))) (hp sh I J)) : ∀ (d k : Nat), k + d = n → LXf TT cl6 X mi_H_areLinesLiterals (40 + 2) (1000 + 200 * 2) D P PX kc ks 95 [(2, .int (Int32.ofInt ((k : Nat) : Int))), (0, .ref 14), (1, .int (Int32.ofInt ((u : Nat) : Int)))] [] (hp sh I J) := by
  obtain ⟨hAI, hlt⟩ := hL
  have hm1 := hAI.2.2.1
  have hm2 := hAI.2.2.2.1
  intro d
  induction d with
  | zero =>
    intro k hd
    obtain rfl : k = n := by omega
    refine lf_iload_n d_H_areLinesLiterals_95 rfl rfl ?_
    refine lf_aload_n d_H_areLinesLiterals_96 rfl rfl rfl ?_
    refine gi_getr s_H_areLinesLiterals_97 (c_14 hH) rfl ?_
    refine gi_geti s_H_areLinesLiterals_100 (c_1 hN) rfl ?_
    refine gi_top hn ?_
    refine gi_icmp_ge d_H_areLinesLiterals_103 (tgt := 149) (by decide) (by omega) (fun hb103 => ?_) (fun hb103 => False.elim (by omega))
    refine lf_iconst d_H_areLinesLiterals_149 (v := Int32.ofInt ((1 : Nat) : Int)) rfl ?_
    exact lf_ireturn d_H_areLinesLiterals_150 rfl rfl hret
  | succ d ih =>
    intro k hd
    have hkn : k < n := by omega
    have hk1 := hlt k hkn
    have ew : lwd J (lt k) &&& J 15 3 = J 26 (k * w + u) := lb_ext (fun i hi9 => by
      rw [lb_and, lb_lwd hi9 (h9 _ (by omega) i hi9), hk1.2.2, he, hW k hkn u hu i hi9, Bool.and_comm])
    have ec : lg_cmp (lwd J (lt k) &&& J 15 3) (J 26 (k * w + u)) = Int32.ofInt ((0 : Nat) : Int) := by
      rw [ew]
      unfold lg_cmp
      simp
    refine lf_iload_n d_H_areLinesLiterals_95 rfl rfl ?_
    refine lf_aload_n d_H_areLinesLiterals_96 rfl rfl rfl ?_
    refine gi_getr s_H_areLinesLiterals_97 (c_14 hH) rfl ?_
    refine gi_geti s_H_areLinesLiterals_100 (c_1 hN) rfl ?_
    refine gi_top hn ?_
    refine gi_icmp_ge d_H_areLinesLiterals_103 (tgt := 149) (by decide) (by omega) (fun hb103 => False.elim (by omega)) (fun hb103 => ?_)
    refine lf_aload_n d_H_areLinesLiterals_106 rfl rfl rfl ?_
    refine lf_aload_n d_H_areLinesLiterals_107 rfl rfl rfl ?_
    refine gi_getr s_H_areLinesLiterals_108 (c_14 hH) rfl ?_
    refine lf_iload_n d_H_areLinesLiterals_111 rfl rfl ?_
    refine gw_callP s_H_areLinesLiterals_112 (a_literalOf hx hA (by omega) hk1.1) (S := [_]) rfl rfl (gcR_2 (c_16 hA)) (by decide) (by decide +kernel) (Nat.le_of_ble_eq_true rfl) ?_
    refine gw_callP s_H_areLinesLiterals_115 (h_literalWord hx hH (x := lt k) (by omega)) (S := []) rfl rfl (gcR_2 (c_14 hH)) (by decide) (by decide +kernel) (Nat.le_of_ble_eq_true rfl) ?_
    refine lf_aload_n d_H_areLinesLiterals_118 rfl rfl rfl ?_
    refine gi_getr s_H_areLinesLiterals_119 (c_14 hH) rfl ?_
    refine gi_getl s_H_areLinesLiterals_122 (c_15 hV) rfl ?_
    refine lf_land d_H_areLinesLiterals_125 ?_
    refine lf_lstore_n d_H_areLinesLiterals_126 rfl (by decide +kernel) (L2 := [(3, _), (2, _), (0, _), (1, _)]) rfl ?_
    refine lf_lload_n d_H_areLinesLiterals_127 rfl rfl ?_
    refine lf_aload_n d_H_areLinesLiterals_128 rfl rfl rfl ?_
    refine gi_getr s_H_areLinesLiterals_129 (c_14 hH) rfl ?_
    refine lf_iload_n d_H_areLinesLiterals_132 rfl rfl ?_
    refine lf_iload_n d_H_areLinesLiterals_133 rfl rfl ?_
    refine gw_callP s_H_areLinesLiterals_134 (v_heldWord hx hV hn2 hw2 hw hkn hu) (S := [_]) rfl rfl (gcR_2 (c_15 hV)) (by decide) (by decide +kernel) (Nat.le_of_ble_eq_true rfl) ?_
    refine lf_lcmp d_H_areLinesLiterals_137 ?_
    refine gi_topX ec ?_
    refine gi_if_eq d_H_areLinesLiterals_138 (tgt := 143) (by decide) (by omega) (fun hb138 => ?_) (fun hb138 => False.elim (by omega))
    refine gi_iincN d_H_areLinesLiterals_143 rfl (by decide +kernel) (L2 := [(2, _), (3, _), (0, _), (1, _)]) rfl ?_
    refine lf_goto d_H_areLinesLiterals_146 (tgt := 95) (by decide) ?_
    refine lf_sub [0, 2, 3] rfl ?_
    exact ih (k + 1) (by omega)
theorem h_areLinesLiterals (hx : HX X L9 xs) (hN : clN sh) (hA : clA sh) (hH : clH sh) {n w s m : Nat} {lo hi lt : Nat → Nat} {kd : Nat → Int} {pa pb : Nat → Nat} (hV : clV sh n w) (hn2 : n ≤ 80) (hw2 : w ≤ 2) (hw : I 15 2 = w) (hn : I 1 11 = n) (hs7 : s ≤ 7) (hsn : s ≤ n) (hso : ∀ j, j < s → I 12 j = j) (he : J 15 3 = evr s) (hL : LN I s n m lo hi lt kd pa pb) (hW : HW J s n w kd pa pb) (hS9 : ∀ j u, j < s → u < w → J 26 (j * w + u) = hS s j u) {u : Nat} (hu : u < w)  : EVi TT cl6 X mi_H_areLinesLiterals 2 [.ref 14, .int (Int32.ofInt ((u : Nat) : Int))] sh I J (fun r I1 J1 => r = 1 ∧ I1 = I ∧ ∀ a, ¬ a = 25 → J1 a = J a) := by
  refine gw_enter (hx_ok hx) (by decide +kernel) (Nat.le_of_ble_eq_true rfl) (L := [(0, _), (1, _)]) rfl ?_
  refine lf_iconst d_H_areLinesLiterals_0 (v := Int32.ofInt ((0 : Nat) : Int)) rfl ?_
  refine lf_istore_n d_H_areLinesLiterals_1 rfl (by decide +kernel) (L2 := [(2, _), (0, _), (1, _)]) rfl ?_
  refine h_al_n hx hN hA hH hV hn2 hw2 hw hn hs7 hsn hso he hL hW hS9 hu (fun J1 h => ?_) m 0 J (by omega) ⟨fun _ _ => rfl, fun j hj => absurd hj (Nat.not_lt_zero j)⟩
  refine lf_iconst d_H_areLinesLiterals_93 (v := Int32.ofInt ((0 : Nat) : Int)) rfl ?_
  refine lf_istore_n d_H_areLinesLiterals_94 rfl (by decide +kernel) (L2 := [(2, _), (0, _), (1, _)]) rfl ?_
  refine h_al_l (J := J1) hx hN hA hH hV hn2 hw2 hw hn hs7 hsn hso (by rw [h.1 15 (by decide)]; exact he) hL (fun k hk v hv i hi9 => by rw [h.1 26 (by decide)]; exact hW k hk v hv i hi9) (fun j v hj hv => by rw [h.1 26 (by decide)]; exact hS9 j v hj hv) hu h.2 ⟨_, _, _, rfl, rfl, _, rfl, rfl, rfl, h.1⟩ n 0 (by omega)
end HT1
