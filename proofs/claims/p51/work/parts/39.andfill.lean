section AT3
variable {X : XT} {L9 : Nat} {xs : Nat → Int32} {sh : sM} {I : mI} {J : mJ}

variable {D : mF} {P : Option Value → mF → Prop} {PX : String → mF → Prop} {kc ks : Nat}

def gB (kd : Int) (x y : Bool) : Bool := if kd = 97 then x && y else if kd = 110 then !(x && y) else if kd = 111 then x || y else if kd = 114 then !(x || y) else if kd = 120 then x ^^ y else if kd = 118 then !x else x
/-- the values of the lines, of those of the sources -/
def bvl (s : Nat) (kd : Nat → Int) (pa pb : Nat → Nat) (src : Nat → Bool) : Nat → Nat → Bool
  | 0, _ => false
  | n + 1, j => if j = n then (if n < s then src n else gB (kd n) (bvl s kd pa pb src n (pa n)) (bvl s kd pa pb src n (pb n))) else bvl s kd pa pb src n j
theorem bvl_st {s : Nat} {kd : Nat → Int} {pa pb : Nat → Nat} {src : Nat → Bool} {n m j : Nat} (h : j < n) (h2 : n ≤ m) : bvl s kd pa pb src m j = bvl s kd pa pb src n j := by
  induction m with
  | zero => omega
  | succ m ih =>
    rcases Nat.lt_or_ge m n with q | q
    · have : n = m + 1 := by omega
      rw [this]
    · show (if j = m then _ else bvl s kd pa pb src m j) = _
      rw [if_neg (by omega)]
      exact ih q
theorem bvl_src {s : Nat} {kd : Nat → Int} {pa pb : Nat → Nat} {src : Nat → Bool} {m j : Nat} (h : j < s) (hm : j < m) : bvl s kd pa pb src m j = src j := by
  rw [bvl_st (n := j + 1) (by omega) (by omega)]
  show (if j = j then _ else _) = _
  rw [if_pos rfl, if_pos h]
theorem bvl_gate {s : Nat} {kd : Nat → Int} {pa pb : Nat → Nat} {src : Nat → Bool} {m j : Nat} (h : s ≤ j) (hm : j < m) (ha : pa j < j) (hb : pb j < j) : bvl s kd pa pb src m j = gB (kd j) (bvl s kd pa pb src m (pa j)) (bvl s kd pa pb src m (pb j)) := by
  rw [bvl_st (n := j + 1) (by omega) (by omega), bvl_st (m := m) (n := j) ha (by omega), bvl_st (m := m) (n := j) hb (by omega)]
  show (if j = j then _ else _) = _
  rw [if_pos rfl, if_neg (by omega)]
theorem lit_ext {s m m1 x : Nat} {lo hi lo1 hi1 : Nat → Nat} {src : Nat → Bool} (h : m ≤ m1) (hl : ∀ j, j < m → lo1 j = lo j ∧ hi1 j = hi j) (hx : x < 2 * m) : lit (ndv s lo1 hi1 src m1) x = lit (ndv s lo hi src m) x := by
  rw [lit_st hx h, ndv_cg hl]
def GLq (I : mI) (J : mJ) (s m : Nat) (lo hi : Nat → Nat) (T : (Nat → Bool) → Bool) (r : Int) (I1 : mI) (J1 : mJ) : Prop :=
  ∃ (m1 r1 : Nat) (lo1 hi1 : Nat → Nat), r = (r1 : Int) ∧ m ≤ m1 ∧ m1 ≤ m + 3 ∧ r1 < 2 * m1 ∧ AI I1 s m1 lo1 hi1 ∧ (∀ j, j < m → lo1 j = lo j ∧ hi1 j = hi j) ∧ (∀ a q, ¬ a = 31 → ¬ a = 32 → ¬ (a = 16 ∧ q = 5) → I1 a q = I a q) ∧ J1 = J ∧ ∀ src, lit (ndv s lo1 hi1 src m1) r1 = T src
theorem a_gateLiteral (hx : HX X L9 xs) (hA : clA sh) {s m : Nat} {lo hi : Nat → Nat} (hI : AI I s m lo hi) (hN : clN sh) (hm9 : m < 240) {k a b x y : Nat} {kd : Int} (hk : k < 80) (ha : I 5 k = a) (hb : I 6 k = b) (ha2 : a < 80) (hb2 : b < 80) (hx3 : I 33 a = x) (hy3 : I 33 b = y) (hx2 : x < 2 * m) (hy2 : y < 2 * m) (hR : NR I) (h3 : I 3 k = kd) (hkd : kd = 97 ∨ kd = 110 ∨ kd = 111 ∨ kd = 114 ∨ kd = 120 ∨ kd = 118 ∨ kd = 98)  : EVi TT cl6 X mi_A_gateLiteral 4 [.ref 16, .int (Int32.ofInt ((k : Nat) : Int))] sh I J (fun r I1 J1 => GLq I J s m lo hi (fun src => gB kd (lit (ndv s lo hi src m) x) (lit (ndv s lo hi src m) y)) r I1 J1) := by
  have hxx := x1_lt hx2
  have hyx := x1_lt hy2
  refine gw_enter (hx_ok hx) (by decide +kernel) (Nat.le_of_ble_eq_true rfl) (L := [(0, _), (1, _)]) rfl ?_
  rcases hkd with rfl | rfl | rfl | rfl | rfl | rfl | rfl
  · refine lf_aload_n d_A_gateLiteral_0 rfl rfl rfl ?_
    refine lf_aload_n d_A_gateLiteral_1 rfl rfl rfl ?_
    refine gi_getr s_A_gateLiteral_2 (c_16 hA) rfl ?_
    refine lf_iload_n d_A_gateLiteral_5 rfl rfl ?_
    refine gw_callP s_A_gateLiteral_6 (n_oneOfPins hx hN (by omega)) (S := [_]) rfl rfl (gcR_2 (c_1 hN)) (by decide) (by decide +kernel) (Nat.le_of_ble_eq_true rfl) ?_
    refine gi_top ha ?_
    refine gw_callP s_A_gateLiteral_9 (a_literalOf hx hA (by omega) hx3) (S := []) rfl rfl (gcR_2 (c_16 hA)) (by decide) (by decide +kernel) (Nat.le_of_ble_eq_true rfl) ?_
    refine lf_istore_n d_A_gateLiteral_12 rfl (by decide +kernel) (L2 := [(2, _), (0, _), (1, _)]) rfl ?_
    refine lf_aload_n d_A_gateLiteral_13 rfl rfl rfl ?_
    refine lf_aload_n d_A_gateLiteral_14 rfl rfl rfl ?_
    refine gi_getr s_A_gateLiteral_15 (c_16 hA) rfl ?_
    refine lf_iload_n d_A_gateLiteral_18 rfl rfl ?_
    refine gw_callP s_A_gateLiteral_19 (n_twoOfPins hx hN (by omega)) (S := [_]) rfl rfl (gcR_2 (c_1 hN)) (by decide) (by decide +kernel) (Nat.le_of_ble_eq_true rfl) ?_
    refine gi_top hb ?_
    refine gw_callP s_A_gateLiteral_22 (a_literalOf hx hA (by omega) hy3) (S := []) rfl rfl (gcR_2 (c_16 hA)) (by decide) (by decide +kernel) (Nat.le_of_ble_eq_true rfl) ?_
    refine lf_istore_n d_A_gateLiteral_25 rfl (by decide +kernel) (L2 := [(3, _), (2, _), (0, _), (1, _)]) rfl ?_
    refine lf_aload_n d_A_gateLiteral_26 rfl rfl rfl ?_
    refine gi_getr s_A_gateLiteral_27 (c_16 hA) rfl ?_
    refine lf_iload_n d_A_gateLiteral_30 rfl rfl ?_
    refine gw_callP s_A_gateLiteral_31 (n_kindOf hx hN hR (by omega)) (S := []) rfl rfl (gcR_2 (c_1 hN)) (by decide) (by decide +kernel) (Nat.le_of_ble_eq_true rfl) ?_
    refine gi_top h3 ?_
    refine lf_lookup (off := 58) (tgt := 92) d_A_gateLiteral_34 (by decide) (by decide) (by decide) ?_
    refine lf_aload_n d_A_gateLiteral_92 rfl rfl rfl ?_
    refine lf_iload_n d_A_gateLiteral_93 rfl rfl ?_
    refine lf_iload_n d_A_gateLiteral_94 rfl rfl ?_
    refine gw_callI s_A_gateLiteral_95 (a_both hx hA hI (by omega) (by omega) (by omega)) (S := []) rfl rfl (gcR_2 (c_16 hA)) (by decide) (by decide +kernel) (Nat.le_of_ble_eq_true rfl) (fun r95 I J w95 => ?_)
    obtain ⟨m1, r1, lo1, hi1, rfl, g1a, g1b, g1I, g1l, g1k, rfl, g1t⟩ := w95
    dsimp only at g1t
    refine gw_iret d_A_gateLiteral_98 rfl ?_
    refine ⟨rfl, _, rfl, m1, r1, lo1, hi1, rfl, by omega, by omega, g1b, g1I, fun j hj => ?_, fun a q h1 h2 h3 => ?_, rfl, fun src => ?_⟩
    · exact ⟨by rw [(g1l j (by omega)).1], by rw [(g1l j (by omega)).2]⟩
    · rw [g1k a q h1 h2 h3]
    · dsimp only
      rw [g1t src]; rfl
  · refine lf_aload_n d_A_gateLiteral_0 rfl rfl rfl ?_
    refine lf_aload_n d_A_gateLiteral_1 rfl rfl rfl ?_
    refine gi_getr s_A_gateLiteral_2 (c_16 hA) rfl ?_
    refine lf_iload_n d_A_gateLiteral_5 rfl rfl ?_
    refine gw_callP s_A_gateLiteral_6 (n_oneOfPins hx hN (by omega)) (S := [_]) rfl rfl (gcR_2 (c_1 hN)) (by decide) (by decide +kernel) (Nat.le_of_ble_eq_true rfl) ?_
    refine gi_top ha ?_
    refine gw_callP s_A_gateLiteral_9 (a_literalOf hx hA (by omega) hx3) (S := []) rfl rfl (gcR_2 (c_16 hA)) (by decide) (by decide +kernel) (Nat.le_of_ble_eq_true rfl) ?_
    refine lf_istore_n d_A_gateLiteral_12 rfl (by decide +kernel) (L2 := [(2, _), (0, _), (1, _)]) rfl ?_
    refine lf_aload_n d_A_gateLiteral_13 rfl rfl rfl ?_
    refine lf_aload_n d_A_gateLiteral_14 rfl rfl rfl ?_
    refine gi_getr s_A_gateLiteral_15 (c_16 hA) rfl ?_
    refine lf_iload_n d_A_gateLiteral_18 rfl rfl ?_
    refine gw_callP s_A_gateLiteral_19 (n_twoOfPins hx hN (by omega)) (S := [_]) rfl rfl (gcR_2 (c_1 hN)) (by decide) (by decide +kernel) (Nat.le_of_ble_eq_true rfl) ?_
    refine gi_top hb ?_
    refine gw_callP s_A_gateLiteral_22 (a_literalOf hx hA (by omega) hy3) (S := []) rfl rfl (gcR_2 (c_16 hA)) (by decide) (by decide +kernel) (Nat.le_of_ble_eq_true rfl) ?_
    refine lf_istore_n d_A_gateLiteral_25 rfl (by decide +kernel) (L2 := [(3, _), (2, _), (0, _), (1, _)]) rfl ?_
    refine lf_aload_n d_A_gateLiteral_26 rfl rfl rfl ?_
    refine gi_getr s_A_gateLiteral_27 (c_16 hA) rfl ?_
    refine lf_iload_n d_A_gateLiteral_30 rfl rfl ?_
    refine gw_callP s_A_gateLiteral_31 (n_kindOf hx hN hR (by omega)) (S := []) rfl rfl (gcR_2 (c_1 hN)) (by decide) (by decide +kernel) (Nat.le_of_ble_eq_true rfl) ?_
    refine gi_top h3 ?_
    refine lf_lookup (off := 65) (tgt := 99) d_A_gateLiteral_34 (by decide) (by decide) (by decide) ?_
    refine lf_aload_n d_A_gateLiteral_99 rfl rfl rfl ?_
    refine lf_iload_n d_A_gateLiteral_100 rfl rfl ?_
    refine lf_iload_n d_A_gateLiteral_101 rfl rfl ?_
    refine gw_callI s_A_gateLiteral_102 (a_both hx hA hI (by omega) (by omega) (by omega)) (S := []) rfl rfl (gcR_2 (c_16 hA)) (by decide) (by decide +kernel) (Nat.le_of_ble_eq_true rfl) (fun r102 I J w102 => ?_)
    obtain ⟨m1, r1, lo1, hi1, rfl, g1a, g1b, g1I, g1l, g1k, rfl, g1t⟩ := w102
    dsimp only at g1t
    refine lf_iconst d_A_gateLiteral_105 (v := Int32.ofInt ((1 : Nat) : Int)) rfl ?_
    refine gi_ixorN (a := r1) (b := 1) d_A_gateLiteral_106 ?_
    refine gw_iret d_A_gateLiteral_107 rfl ?_
    refine ⟨rfl, _, rfl, m1, r1 ^^^ 1, lo1, hi1, rfl, by omega, by omega, x1_lt g1b, g1I, fun j hj => ?_, fun a q h1 h2 h3 => ?_, rfl, fun src => ?_⟩
    · exact ⟨by rw [(g1l j (by omega)).1], by rw [(g1l j (by omega)).2]⟩
    · rw [g1k a q h1 h2 h3]
    · dsimp only
      rw [lit_x, g1t src]; rfl
  · refine lf_aload_n d_A_gateLiteral_0 rfl rfl rfl ?_
    refine lf_aload_n d_A_gateLiteral_1 rfl rfl rfl ?_
    refine gi_getr s_A_gateLiteral_2 (c_16 hA) rfl ?_
    refine lf_iload_n d_A_gateLiteral_5 rfl rfl ?_
    refine gw_callP s_A_gateLiteral_6 (n_oneOfPins hx hN (by omega)) (S := [_]) rfl rfl (gcR_2 (c_1 hN)) (by decide) (by decide +kernel) (Nat.le_of_ble_eq_true rfl) ?_
    refine gi_top ha ?_
    refine gw_callP s_A_gateLiteral_9 (a_literalOf hx hA (by omega) hx3) (S := []) rfl rfl (gcR_2 (c_16 hA)) (by decide) (by decide +kernel) (Nat.le_of_ble_eq_true rfl) ?_
    refine lf_istore_n d_A_gateLiteral_12 rfl (by decide +kernel) (L2 := [(2, _), (0, _), (1, _)]) rfl ?_
    refine lf_aload_n d_A_gateLiteral_13 rfl rfl rfl ?_
    refine lf_aload_n d_A_gateLiteral_14 rfl rfl rfl ?_
    refine gi_getr s_A_gateLiteral_15 (c_16 hA) rfl ?_
    refine lf_iload_n d_A_gateLiteral_18 rfl rfl ?_
    refine gw_callP s_A_gateLiteral_19 (n_twoOfPins hx hN (by omega)) (S := [_]) rfl rfl (gcR_2 (c_1 hN)) (by decide) (by decide +kernel) (Nat.le_of_ble_eq_true rfl) ?_
    refine gi_top hb ?_
    refine gw_callP s_A_gateLiteral_22 (a_literalOf hx hA (by omega) hy3) (S := []) rfl rfl (gcR_2 (c_16 hA)) (by decide) (by decide +kernel) (Nat.le_of_ble_eq_true rfl) ?_
    refine lf_istore_n d_A_gateLiteral_25 rfl (by decide +kernel) (L2 := [(3, _), (2, _), (0, _), (1, _)]) rfl ?_
    refine lf_aload_n d_A_gateLiteral_26 rfl rfl rfl ?_
    refine gi_getr s_A_gateLiteral_27 (c_16 hA) rfl ?_
    refine lf_iload_n d_A_gateLiteral_30 rfl rfl ?_
    refine gw_callP s_A_gateLiteral_31 (n_kindOf hx hN hR (by omega)) (S := []) rfl rfl (gcR_2 (c_1 hN)) (by decide) (by decide +kernel) (Nat.le_of_ble_eq_true rfl) ?_
    refine gi_top h3 ?_
    refine lf_lookup (off := 74) (tgt := 108) d_A_gateLiteral_34 (by decide) (by decide) (by decide) ?_
    refine lf_aload_n d_A_gateLiteral_108 rfl rfl rfl ?_
    refine lf_iload_n d_A_gateLiteral_109 rfl rfl ?_
    refine lf_iconst d_A_gateLiteral_110 (v := Int32.ofInt ((1 : Nat) : Int)) rfl ?_
    refine gi_ixorN (a := x) (b := 1) d_A_gateLiteral_111 ?_
    refine lf_iload_n d_A_gateLiteral_112 rfl rfl ?_
    refine lf_iconst d_A_gateLiteral_113 (v := Int32.ofInt ((1 : Nat) : Int)) rfl ?_
    refine gi_ixorN (a := y) (b := 1) d_A_gateLiteral_114 ?_
    refine gw_callI s_A_gateLiteral_115 (a_both hx hA hI (by omega) (by omega) (by omega)) (S := []) rfl rfl (gcR_2 (c_16 hA)) (by decide) (by decide +kernel) (Nat.le_of_ble_eq_true rfl) (fun r115 I J w115 => ?_)
    obtain ⟨m1, r1, lo1, hi1, rfl, g1a, g1b, g1I, g1l, g1k, rfl, g1t⟩ := w115
    dsimp only at g1t
    refine lf_iconst d_A_gateLiteral_118 (v := Int32.ofInt ((1 : Nat) : Int)) rfl ?_
    refine gi_ixorN (a := r1) (b := 1) d_A_gateLiteral_119 ?_
    refine gw_iret d_A_gateLiteral_120 rfl ?_
    refine ⟨rfl, _, rfl, m1, r1 ^^^ 1, lo1, hi1, rfl, by omega, by omega, x1_lt g1b, g1I, fun j hj => ?_, fun a q h1 h2 h3 => ?_, rfl, fun src => ?_⟩
    · exact ⟨by rw [(g1l j (by omega)).1], by rw [(g1l j (by omega)).2]⟩
    · rw [g1k a q h1 h2 h3]
    · dsimp only
      rw [lit_x, g1t src, lit_x, lit_x]
      cases lit (ndv s lo hi src m) x <;> cases lit (ndv s lo hi src m) y <;> rfl
  · refine lf_aload_n d_A_gateLiteral_0 rfl rfl rfl ?_
    refine lf_aload_n d_A_gateLiteral_1 rfl rfl rfl ?_
    refine gi_getr s_A_gateLiteral_2 (c_16 hA) rfl ?_
    refine lf_iload_n d_A_gateLiteral_5 rfl rfl ?_
    refine gw_callP s_A_gateLiteral_6 (n_oneOfPins hx hN (by omega)) (S := [_]) rfl rfl (gcR_2 (c_1 hN)) (by decide) (by decide +kernel) (Nat.le_of_ble_eq_true rfl) ?_
    refine gi_top ha ?_
    refine gw_callP s_A_gateLiteral_9 (a_literalOf hx hA (by omega) hx3) (S := []) rfl rfl (gcR_2 (c_16 hA)) (by decide) (by decide +kernel) (Nat.le_of_ble_eq_true rfl) ?_
    refine lf_istore_n d_A_gateLiteral_12 rfl (by decide +kernel) (L2 := [(2, _), (0, _), (1, _)]) rfl ?_
    refine lf_aload_n d_A_gateLiteral_13 rfl rfl rfl ?_
    refine lf_aload_n d_A_gateLiteral_14 rfl rfl rfl ?_
    refine gi_getr s_A_gateLiteral_15 (c_16 hA) rfl ?_
    refine lf_iload_n d_A_gateLiteral_18 rfl rfl ?_
    refine gw_callP s_A_gateLiteral_19 (n_twoOfPins hx hN (by omega)) (S := [_]) rfl rfl (gcR_2 (c_1 hN)) (by decide) (by decide +kernel) (Nat.le_of_ble_eq_true rfl) ?_
    refine gi_top hb ?_
    refine gw_callP s_A_gateLiteral_22 (a_literalOf hx hA (by omega) hy3) (S := []) rfl rfl (gcR_2 (c_16 hA)) (by decide) (by decide +kernel) (Nat.le_of_ble_eq_true rfl) ?_
    refine lf_istore_n d_A_gateLiteral_25 rfl (by decide +kernel) (L2 := [(3, _), (2, _), (0, _), (1, _)]) rfl ?_
    refine lf_aload_n d_A_gateLiteral_26 rfl rfl rfl ?_
    refine gi_getr s_A_gateLiteral_27 (c_16 hA) rfl ?_
    refine lf_iload_n d_A_gateLiteral_30 rfl rfl ?_
    refine gw_callP s_A_gateLiteral_31 (n_kindOf hx hN hR (by omega)) (S := []) rfl rfl (gcR_2 (c_1 hN)) (by decide) (by decide +kernel) (Nat.le_of_ble_eq_true rfl) ?_
    refine gi_top h3 ?_
    refine lf_lookup (off := 87) (tgt := 121) d_A_gateLiteral_34 (by decide) (by decide) (by decide) ?_
    refine lf_aload_n d_A_gateLiteral_121 rfl rfl rfl ?_
    refine lf_iload_n d_A_gateLiteral_122 rfl rfl ?_
    refine lf_iconst d_A_gateLiteral_123 (v := Int32.ofInt ((1 : Nat) : Int)) rfl ?_
    refine gi_ixorN (a := x) (b := 1) d_A_gateLiteral_124 ?_
    refine lf_iload_n d_A_gateLiteral_125 rfl rfl ?_
    refine lf_iconst d_A_gateLiteral_126 (v := Int32.ofInt ((1 : Nat) : Int)) rfl ?_
    refine gi_ixorN (a := y) (b := 1) d_A_gateLiteral_127 ?_
    refine gw_callI s_A_gateLiteral_128 (a_both hx hA hI (by omega) (by omega) (by omega)) (S := []) rfl rfl (gcR_2 (c_16 hA)) (by decide) (by decide +kernel) (Nat.le_of_ble_eq_true rfl) (fun r128 I J w128 => ?_)
    obtain ⟨m1, r1, lo1, hi1, rfl, g1a, g1b, g1I, g1l, g1k, rfl, g1t⟩ := w128
    dsimp only at g1t
    refine gw_iret d_A_gateLiteral_131 rfl ?_
    refine ⟨rfl, _, rfl, m1, r1, lo1, hi1, rfl, by omega, by omega, g1b, g1I, fun j hj => ?_, fun a q h1 h2 h3 => ?_, rfl, fun src => ?_⟩
    · exact ⟨by rw [(g1l j (by omega)).1], by rw [(g1l j (by omega)).2]⟩
    · rw [g1k a q h1 h2 h3]
    · dsimp only
      rw [g1t src, lit_x, lit_x]
      cases lit (ndv s lo hi src m) x <;> cases lit (ndv s lo hi src m) y <;> rfl
  · refine lf_aload_n d_A_gateLiteral_0 rfl rfl rfl ?_
    refine lf_aload_n d_A_gateLiteral_1 rfl rfl rfl ?_
    refine gi_getr s_A_gateLiteral_2 (c_16 hA) rfl ?_
    refine lf_iload_n d_A_gateLiteral_5 rfl rfl ?_
    refine gw_callP s_A_gateLiteral_6 (n_oneOfPins hx hN (by omega)) (S := [_]) rfl rfl (gcR_2 (c_1 hN)) (by decide) (by decide +kernel) (Nat.le_of_ble_eq_true rfl) ?_
    refine gi_top ha ?_
    refine gw_callP s_A_gateLiteral_9 (a_literalOf hx hA (by omega) hx3) (S := []) rfl rfl (gcR_2 (c_16 hA)) (by decide) (by decide +kernel) (Nat.le_of_ble_eq_true rfl) ?_
    refine lf_istore_n d_A_gateLiteral_12 rfl (by decide +kernel) (L2 := [(2, _), (0, _), (1, _)]) rfl ?_
    refine lf_aload_n d_A_gateLiteral_13 rfl rfl rfl ?_
    refine lf_aload_n d_A_gateLiteral_14 rfl rfl rfl ?_
    refine gi_getr s_A_gateLiteral_15 (c_16 hA) rfl ?_
    refine lf_iload_n d_A_gateLiteral_18 rfl rfl ?_
    refine gw_callP s_A_gateLiteral_19 (n_twoOfPins hx hN (by omega)) (S := [_]) rfl rfl (gcR_2 (c_1 hN)) (by decide) (by decide +kernel) (Nat.le_of_ble_eq_true rfl) ?_
    refine gi_top hb ?_
    refine gw_callP s_A_gateLiteral_22 (a_literalOf hx hA (by omega) hy3) (S := []) rfl rfl (gcR_2 (c_16 hA)) (by decide) (by decide +kernel) (Nat.le_of_ble_eq_true rfl) ?_
    refine lf_istore_n d_A_gateLiteral_25 rfl (by decide +kernel) (L2 := [(3, _), (2, _), (0, _), (1, _)]) rfl ?_
    refine lf_aload_n d_A_gateLiteral_26 rfl rfl rfl ?_
    refine gi_getr s_A_gateLiteral_27 (c_16 hA) rfl ?_
    refine lf_iload_n d_A_gateLiteral_30 rfl rfl ?_
    refine gw_callP s_A_gateLiteral_31 (n_kindOf hx hN hR (by omega)) (S := []) rfl rfl (gcR_2 (c_1 hN)) (by decide) (by decide +kernel) (Nat.le_of_ble_eq_true rfl) ?_
    refine gi_top h3 ?_
    refine lf_lookup (off := 98) (tgt := 132) d_A_gateLiteral_34 (by decide) (by decide) (by decide) ?_
    refine lf_aload_n d_A_gateLiteral_132 rfl rfl rfl ?_
    refine lf_iload_n d_A_gateLiteral_133 rfl rfl ?_
    refine lf_iload_n d_A_gateLiteral_134 rfl rfl ?_
    refine gw_callI s_A_gateLiteral_135 (a_both hx hA hI (by omega) (by omega) (by omega)) (S := []) rfl rfl (gcR_2 (c_16 hA)) (by decide) (by decide +kernel) (Nat.le_of_ble_eq_true rfl) (fun r135 I J w135 => ?_)
    obtain ⟨m1, r1, lo1, hi1, rfl, g1a, g1b, g1I, g1l, g1k, rfl, g1t⟩ := w135
    dsimp only at g1t
    have hx4 : x ^^^ 1 < 2 * m1 := x1_lt (by omega)
    have hy4 : y ^^^ 1 < 2 * m1 := x1_lt (by omega)
    refine lf_istore d_A_gateLiteral_138 (by decide +kernel) (L2 := [(4, _), (3, _), (2, _), (0, _), (1, _)]) rfl ?_
    refine lf_aload_n d_A_gateLiteral_140 rfl rfl rfl ?_
    refine lf_iload_n d_A_gateLiteral_141 rfl rfl ?_
    refine lf_iconst d_A_gateLiteral_142 (v := Int32.ofInt ((1 : Nat) : Int)) rfl ?_
    refine gi_ixorN (a := x) (b := 1) d_A_gateLiteral_143 ?_
    refine lf_iload_n d_A_gateLiteral_144 rfl rfl ?_
    refine lf_iconst d_A_gateLiteral_145 (v := Int32.ofInt ((1 : Nat) : Int)) rfl ?_
    refine gi_ixorN (a := y) (b := 1) d_A_gateLiteral_146 ?_
    refine gw_callI s_A_gateLiteral_147 (a_both hx hA g1I (by omega) (by omega) (by omega)) (S := []) rfl rfl (gcR_2 (c_16 hA)) (by decide) (by decide +kernel) (Nat.le_of_ble_eq_true rfl) (fun r147 I J w147 => ?_)
    obtain ⟨m2, r2, lo2, hi2, rfl, g2a, g2b, g2I, g2l, g2k, rfl, g2t⟩ := w147
    dsimp only at g2t
    have h14 : r1 ^^^ 1 < 2 * m2 := x1_lt (by omega)
    have h24 : r2 ^^^ 1 < 2 * m2 := x1_lt (by omega)
    refine lf_istore d_A_gateLiteral_150 (by decide +kernel) (L2 := [(5, _), (4, _), (3, _), (2, _), (0, _), (1, _)]) rfl ?_
    refine lf_aload_n d_A_gateLiteral_152 rfl rfl rfl ?_
    refine lf_iload d_A_gateLiteral_153 rfl ?_
    refine lf_iconst d_A_gateLiteral_155 (v := Int32.ofInt ((1 : Nat) : Int)) rfl ?_
    refine gi_ixorN (a := r1) (b := 1) d_A_gateLiteral_156 ?_
    refine lf_iload d_A_gateLiteral_157 rfl ?_
    refine lf_iconst d_A_gateLiteral_159 (v := Int32.ofInt ((1 : Nat) : Int)) rfl ?_
    refine gi_ixorN (a := r2) (b := 1) d_A_gateLiteral_160 ?_
    refine gw_callI s_A_gateLiteral_161 (a_both hx hA g2I (by omega) (by omega) (by omega)) (S := []) rfl rfl (gcR_2 (c_16 hA)) (by decide) (by decide +kernel) (Nat.le_of_ble_eq_true rfl) (fun r161 I J w161 => ?_)
    obtain ⟨m3, r3, lo3, hi3, rfl, g3a, g3b, g3I, g3l, g3k, rfl, g3t⟩ := w161
    dsimp only at g3t
    refine gw_iret d_A_gateLiteral_164 rfl ?_
    refine ⟨rfl, _, rfl, m3, r3, lo3, hi3, rfl, by omega, by omega, g3b, g3I, fun j hj => ?_, fun a q h1 h2 h3 => ?_, rfl, fun src => ?_⟩
    · exact ⟨by rw [(g3l j (by omega)).1, (g2l j (by omega)).1, (g1l j (by omega)).1], by rw [(g3l j (by omega)).2, (g2l j (by omega)).2, (g1l j (by omega)).2]⟩
    · rw [g3k a q h1 h2 h3, g2k a q h1 h2 h3, g1k a q h1 h2 h3]
    · dsimp only
      rw [g3t src, lit_x, lit_x, g2t src, lit_ext (m := m1) (by omega) g2l g1b, g1t src, lit_x, lit_x, lit_ext (m := m) (by omega) g1l hx2, lit_ext (m := m) (by omega) g1l hy2]
      cases lit (ndv s lo hi src m) x <;> cases lit (ndv s lo hi src m) y <;> rfl
  · refine lf_aload_n d_A_gateLiteral_0 rfl rfl rfl ?_
    refine lf_aload_n d_A_gateLiteral_1 rfl rfl rfl ?_
    refine gi_getr s_A_gateLiteral_2 (c_16 hA) rfl ?_
    refine lf_iload_n d_A_gateLiteral_5 rfl rfl ?_
    refine gw_callP s_A_gateLiteral_6 (n_oneOfPins hx hN (by omega)) (S := [_]) rfl rfl (gcR_2 (c_1 hN)) (by decide) (by decide +kernel) (Nat.le_of_ble_eq_true rfl) ?_
    refine gi_top ha ?_
    refine gw_callP s_A_gateLiteral_9 (a_literalOf hx hA (by omega) hx3) (S := []) rfl rfl (gcR_2 (c_16 hA)) (by decide) (by decide +kernel) (Nat.le_of_ble_eq_true rfl) ?_
    refine lf_istore_n d_A_gateLiteral_12 rfl (by decide +kernel) (L2 := [(2, _), (0, _), (1, _)]) rfl ?_
    refine lf_aload_n d_A_gateLiteral_13 rfl rfl rfl ?_
    refine lf_aload_n d_A_gateLiteral_14 rfl rfl rfl ?_
    refine gi_getr s_A_gateLiteral_15 (c_16 hA) rfl ?_
    refine lf_iload_n d_A_gateLiteral_18 rfl rfl ?_
    refine gw_callP s_A_gateLiteral_19 (n_twoOfPins hx hN (by omega)) (S := [_]) rfl rfl (gcR_2 (c_1 hN)) (by decide) (by decide +kernel) (Nat.le_of_ble_eq_true rfl) ?_
    refine gi_top hb ?_
    refine gw_callP s_A_gateLiteral_22 (a_literalOf hx hA (by omega) hy3) (S := []) rfl rfl (gcR_2 (c_16 hA)) (by decide) (by decide +kernel) (Nat.le_of_ble_eq_true rfl) ?_
    refine lf_istore_n d_A_gateLiteral_25 rfl (by decide +kernel) (L2 := [(3, _), (2, _), (0, _), (1, _)]) rfl ?_
    refine lf_aload_n d_A_gateLiteral_26 rfl rfl rfl ?_
    refine gi_getr s_A_gateLiteral_27 (c_16 hA) rfl ?_
    refine lf_iload_n d_A_gateLiteral_30 rfl rfl ?_
    refine gw_callP s_A_gateLiteral_31 (n_kindOf hx hN hR (by omega)) (S := []) rfl rfl (gcR_2 (c_1 hN)) (by decide) (by decide +kernel) (Nat.le_of_ble_eq_true rfl) ?_
    refine gi_top h3 ?_
    refine lf_lookup (off := 131) (tgt := 165) d_A_gateLiteral_34 (by decide) (by decide) (by decide) ?_
    refine lf_iload_n d_A_gateLiteral_165 rfl rfl ?_
    refine lf_iconst d_A_gateLiteral_166 (v := Int32.ofInt ((1 : Nat) : Int)) rfl ?_
    refine gi_ixorN (a := x) (b := 1) d_A_gateLiteral_167 ?_
    refine gw_iret d_A_gateLiteral_168 rfl ?_
    refine ⟨rfl, _, rfl, m, x ^^^ 1, lo, hi, rfl, by omega, by omega, x1_lt hx2, hI, fun _ _ => ⟨rfl, rfl⟩, fun _ _ _ _ _ => rfl, rfl, fun src => ?_⟩
    rw [lit_x]; rfl
  · refine lf_aload_n d_A_gateLiteral_0 rfl rfl rfl ?_
    refine lf_aload_n d_A_gateLiteral_1 rfl rfl rfl ?_
    refine gi_getr s_A_gateLiteral_2 (c_16 hA) rfl ?_
    refine lf_iload_n d_A_gateLiteral_5 rfl rfl ?_
    refine gw_callP s_A_gateLiteral_6 (n_oneOfPins hx hN (by omega)) (S := [_]) rfl rfl (gcR_2 (c_1 hN)) (by decide) (by decide +kernel) (Nat.le_of_ble_eq_true rfl) ?_
    refine gi_top ha ?_
    refine gw_callP s_A_gateLiteral_9 (a_literalOf hx hA (by omega) hx3) (S := []) rfl rfl (gcR_2 (c_16 hA)) (by decide) (by decide +kernel) (Nat.le_of_ble_eq_true rfl) ?_
    refine lf_istore_n d_A_gateLiteral_12 rfl (by decide +kernel) (L2 := [(2, _), (0, _), (1, _)]) rfl ?_
    refine lf_aload_n d_A_gateLiteral_13 rfl rfl rfl ?_
    refine lf_aload_n d_A_gateLiteral_14 rfl rfl rfl ?_
    refine gi_getr s_A_gateLiteral_15 (c_16 hA) rfl ?_
    refine lf_iload_n d_A_gateLiteral_18 rfl rfl ?_
    refine gw_callP s_A_gateLiteral_19 (n_twoOfPins hx hN (by omega)) (S := [_]) rfl rfl (gcR_2 (c_1 hN)) (by decide) (by decide +kernel) (Nat.le_of_ble_eq_true rfl) ?_
    refine gi_top hb ?_
    refine gw_callP s_A_gateLiteral_22 (a_literalOf hx hA (by omega) hy3) (S := []) rfl rfl (gcR_2 (c_16 hA)) (by decide) (by decide +kernel) (Nat.le_of_ble_eq_true rfl) ?_
    refine lf_istore_n d_A_gateLiteral_25 rfl (by decide +kernel) (L2 := [(3, _), (2, _), (0, _), (1, _)]) rfl ?_
    refine lf_aload_n d_A_gateLiteral_26 rfl rfl rfl ?_
    refine gi_getr s_A_gateLiteral_27 (c_16 hA) rfl ?_
    refine lf_iload_n d_A_gateLiteral_30 rfl rfl ?_
    refine gw_callP s_A_gateLiteral_31 (n_kindOf hx hN hR (by omega)) (S := []) rfl rfl (gcR_2 (c_1 hN)) (by decide) (by decide +kernel) (Nat.le_of_ble_eq_true rfl) ?_
    refine gi_top h3 ?_
    refine lf_lookup (off := 135) (tgt := 169) d_A_gateLiteral_34 (by decide) (by decide) (by decide) ?_
    refine lf_iload_n d_A_gateLiteral_169 rfl rfl ?_
    refine gw_iret d_A_gateLiteral_170 rfl ?_
    exact ⟨rfl, _, rfl, m, x, lo, hi, rfl, by omega, by omega, hx2, hI, fun _ _ => ⟨rfl, rfl⟩, fun _ _ _ _ _ => rfl, rfl, fun src => rfl⟩
def AL (I0 I : mI) (s n k : Nat) (pa pb : Nat → Nat) : Prop :=
  ∃ (m : Nat) (lo hi lt : Nat → Nat), AI I s m lo hi ∧ m ≤ s + 1 + 3 * k ∧ (∀ j, j < k → I 33 j = lt j ∧ lt j < 2 * m ∧ ∀ src, lit (ndv s lo hi src m) (lt j) = bvl s (fun j => I0 3 j) pa pb src n j) ∧
    (∀ a q, ¬ a = 31 → ¬ a = 32 → ¬ a = 33 → ¬ (a = 16 ∧ q = 5) → I a q = I0 a q)
theorem AI_put {s m k : Nat} {x : Int} {lo hi : Nat → Nat} (h : AI I s m lo hi) : AI (ipt I 33 k x) s m lo hi := h
theorem a_fill_l (hx : HX X L9 xs) (hN : clN sh) (hA : clA sh) {n s : Nat} {pa pb : Nat → Nat} (hF : NF I n s pa pb) (hn24 : n ≤ 60)  (k60 : ∀ I1 : mI, AL I I1 s n n pa pb → LXf TT cl6 X mi_A_fill (40 + 5) (1000 + 200 * 5) D P PX kc ks 60 [(1, .int (Int32.ofInt ((n : Nat) : Int))), (0, .ref 16)] [] (hp sh I1 J)) : ∀ (c k : Nat) (I1 : mI), k + c = n → AL I I1 s n k pa pb → LXf TT cl6 X mi_A_fill (40 + 5) (1000 + 200 * 5) D P PX kc ks 2 [(1, .int (Int32.ofInt ((k : Nat) : Int))), (0, .ref 16)] [] (hp sh I1 J) := by
  obtain ⟨hn, hn2, hs7, hsn, hR, hsc, hso, hsk, hg⟩ := hF
  intro c
  induction c with
  | zero =>
    intro k I1 hk hi
    obtain rfl : k = n := by omega
    have e1 : I1 1 11 = (k : Int) := by obtain ⟨m, lo, hi, lt, -, -, -, hk2⟩ := hi; rw [hk2 1 11 (by decide) (by decide) (by decide) (by omega)]; exact hn
    refine lf_iload_n d_A_fill_2 rfl rfl ?_
    refine lf_aload_n d_A_fill_3 rfl rfl rfl ?_
    refine gi_getr s_A_fill_4 (c_16 hA) rfl ?_
    refine gi_geti s_A_fill_7 (c_1 hN) rfl ?_
    refine gi_top e1 ?_
    refine gi_icmp_ge d_A_fill_10 (tgt := 60) (by decide) (by omega) (fun hb10 => ?_) (fun hb10 => False.elim (by omega))
    exact k60 I1 hi
  | succ c ih =>
    intro k I1 hk hi
    obtain ⟨m, lo, hi, lt, gI, gm, gl, gk⟩ := hi
    have ek : ∀ a, ¬ a = 31 → ¬ a = 32 → ¬ a = 33 → ¬ a = 16 → I1 a = I a := fun a h1 h2 h3 h4 => by
      funext q
      exact gk a q h1 h2 h3 (fun z => h4 z.1)
    have e1 : I1 1 11 = (n : Int) := by rw [ek 1 (by decide) (by decide) (by decide) (by decide)]; exact hn
    have hR1 : NR I1 := by unfold NR; rw [ek 3 (by decide) (by decide) (by decide) (by decide), ek 4 (by decide) (by decide) (by decide) (by decide)]; exact hR
    have e3 : I1 3 k = I 3 k := by rw [ek 3 (by decide) (by decide) (by decide) (by decide)]
    have hm0 := gI.2.2.1
    rcases Nat.lt_or_ge k s with q | q
    · have hk1 := hsk k q
      have e4 : I1 1 12 + I1 11 0 + I1 11 1 = (s : Int) := by rw [ek 1 (by decide) (by decide) (by decide) (by decide), ek 11 (by decide) (by decide) (by decide) (by decide)]; exact hsc
      have e5 : ∀ j, j < s → I1 12 j = j := by rw [ek 12 (by decide) (by decide) (by decide) (by decide)]; exact hso
      refine lf_iload_n d_A_fill_2 rfl rfl ?_
      refine lf_aload_n d_A_fill_3 rfl rfl rfl ?_
      refine gi_getr s_A_fill_4 (c_16 hA) rfl ?_
      refine gi_geti s_A_fill_7 (c_1 hN) rfl ?_
      refine gi_top e1 ?_
      refine gi_icmp_ge d_A_fill_10 (tgt := 60) (by decide) (by omega) (fun hb10 => False.elim (by omega)) (fun hb10 => ?_)
      refine lf_aload_n d_A_fill_13 rfl rfl rfl ?_
      refine gi_getr s_A_fill_14 (c_16 hA) rfl ?_
      refine lf_iload_n d_A_fill_17 rfl rfl ?_
      refine gw_callP s_A_fill_18 (n_isGate hx hN hR1 (by omega)) (S := []) rfl rfl (gcR_2 (c_1 hN)) (by decide) (by decide +kernel) (Nat.le_of_ble_eq_true rfl) ?_
      refine gb_if_eq d_A_fill_21 (tgt := 32) (by decide) (fun hb21 => ?_) (fun hb21 => False.elim (by omega))
      refine lf_iconst d_A_fill_32 (v := Int32.ofInt ((2 : Nat) : Int)) rfl ?_
      refine lf_iconst d_A_fill_33 (v := Int32.ofInt ((1 : Nat) : Int)) rfl ?_
      refine lf_aload_n d_A_fill_34 rfl rfl rfl ?_
      refine gi_getr s_A_fill_35 (c_16 hA) rfl ?_
      refine lf_iload_n d_A_fill_38 rfl rfl ?_
      refine gw_callP s_A_fill_39 (n_sourceAtLine hx hN e4 (by omega) e5 q) (S := [_, _]) rfl rfl (gcR_2 (c_1 hN)) (by decide) (by decide +kernel) (Nat.le_of_ble_eq_true rfl) ?_
      refine gi_iaddN (a := 1) (b := k) d_A_fill_42 ?_
      refine gi_imulN (a := 2) (b := (1 + k)) d_A_fill_43 ?_
      refine lf_istore_n d_A_fill_44 rfl (by decide +kernel) (L2 := [(2, _), (1, _), (0, _)]) rfl ?_
      refine lf_aload_n d_A_fill_45 rfl rfl rfl ?_
      refine gi_getr s_A_fill_46 (c_16 hA) rfl ?_
      refine lf_iload_n d_A_fill_49 rfl rfl ?_
      refine lf_iload_n d_A_fill_50 rfl rfl ?_
      refine gw_callV s_A_fill_51 (m_putNumberN hx (c_33 hA) (by omega)) (S := []) rfl rfl gcR_4 (by decide) (by decide +kernel) (Nat.le_of_ble_eq_true rfl) (fun I J w51 => ?_)
      obtain ⟨rfl, rfl⟩ := w51
      refine gi_iincN d_A_fill_54 rfl (by decide +kernel) (L2 := [(1, _), (2, _), (0, _)]) rfl ?_
      refine lf_goto d_A_fill_57 (tgt := 2) (by decide) ?_
      refine lf_sub [0, 2] rfl ?_
      refine ih (k + 1) _ (by omega) ⟨m, lo, hi, fun j => if j = k then 2 * (1 + k) else lt j, AI_put gI, by omega, fun j hj => ?_, fun a q h1 h2 h3 h4 => ?_⟩
      · dsimp only
        by_cases e : j = k
        · subst e
          rw [if_pos rfl, ipt_e]
          exact ⟨rfl, by omega, fun src => by
            rw [bvl_src q (by omega)]
            unfold lit
            rw [show 2 * (1 + j) / 2 = j + 1 by omega, decide_eq_false (show ¬ 2 * (1 + j) % 2 = 1 by omega), ndv_src q (by omega), Bool.xor_false]⟩
        · rw [if_neg e, ipt_s, if_neg e]
          have g := gl j (by omega)
          exact g
      · rw [ipt_o h3]
        exact gk a q h1 h2 h3 h4
    · have hk1 := hg k q (by omega)
      have ga := gl (pa k) (by omega)
      have gb := gl (pb k) (by omega)
      refine lf_iload_n d_A_fill_2 rfl rfl ?_
      refine lf_aload_n d_A_fill_3 rfl rfl rfl ?_
      refine gi_getr s_A_fill_4 (c_16 hA) rfl ?_
      refine gi_geti s_A_fill_7 (c_1 hN) rfl ?_
      refine gi_top e1 ?_
      refine gi_icmp_ge d_A_fill_10 (tgt := 60) (by decide) (by omega) (fun hb10 => False.elim (by omega)) (fun hb10 => ?_)
      refine lf_aload_n d_A_fill_13 rfl rfl rfl ?_
      refine gi_getr s_A_fill_14 (c_16 hA) rfl ?_
      refine lf_iload_n d_A_fill_17 rfl rfl ?_
      refine gw_callP s_A_fill_18 (n_isGate hx hN hR1 (by omega)) (S := []) rfl rfl (gcR_2 (c_1 hN)) (by decide) (by decide +kernel) (Nat.le_of_ble_eq_true rfl) ?_
      refine gb_if_eq d_A_fill_21 (tgt := 32) (by decide) (fun hb21 => False.elim (by omega)) (fun hb21 => ?_)
      refine lf_aload_n d_A_fill_24 rfl rfl rfl ?_
      refine lf_iload_n d_A_fill_25 rfl rfl ?_
      refine gw_callI s_A_fill_26 (a_gateLiteral hx hA gI hN (by omega) (k := k) (by omega) (by rw [ek 5 (by decide) (by decide) (by decide) (by decide)]; exact hk1.2.1) (by rw [ek 6 (by decide) (by decide) (by decide) (by decide)]; exact hk1.2.2.1) (by omega) (by omega) ga.1 gb.1 ga.2.1 gb.2.1 hR1 e3 hk1.1) (S := []) rfl rfl (gcR_2 (c_16 hA)) (by decide) (by decide +kernel) (Nat.le_of_ble_eq_true rfl) (fun r26 I J w26 => ?_)
      obtain ⟨m1, r1, lo1, hi1, rfl, g1, g2, g3, g4, g5, g6, rfl, g7⟩ := w26
      dsimp only at g7
      refine lf_goto d_A_fill_29 (tgt := 44) (by decide) ?_
      refine lf_istore_n d_A_fill_44 rfl (by decide +kernel) (L2 := [(2, _), (1, _), (0, _)]) rfl ?_
      refine lf_aload_n d_A_fill_45 rfl rfl rfl ?_
      refine gi_getr s_A_fill_46 (c_16 hA) rfl ?_
      refine lf_iload_n d_A_fill_49 rfl rfl ?_
      refine lf_iload_n d_A_fill_50 rfl rfl ?_
      refine gw_callV s_A_fill_51 (m_putNumberN hx (c_33 hA) (by omega)) (S := []) rfl rfl gcR_4 (by decide) (by decide +kernel) (Nat.le_of_ble_eq_true rfl) (fun I J w51 => ?_)
      obtain ⟨rfl, rfl⟩ := w51
      refine gi_iincN d_A_fill_54 rfl (by decide +kernel) (L2 := [(1, _), (2, _), (0, _)]) rfl ?_
      refine lf_goto d_A_fill_57 (tgt := 2) (by decide) ?_
      refine lf_sub [0, 2] rfl ?_
      refine ih (k + 1) _ (by omega) ⟨m1, lo1, hi1, fun j => if j = k then r1 else lt j, AI_put g4, by omega, fun j hj => ?_, fun a q h1 h2 h3 h4 => ?_⟩
      · dsimp only
        by_cases e : j = k
        · subst e
          rw [if_pos rfl, ipt_e]
          exact ⟨rfl, by omega, fun src => by
            rw [g7 src, bvl_gate q (by omega) hk1.2.2.2.1 hk1.2.2.2.2, ga.2.2 src, gb.2.2 src]⟩
        · rw [if_neg e, ipt_s, if_neg e]
          have g := gl j (by omega)
          refine ⟨?_, by omega, fun src => ?_⟩
          · rw [g6 33 j (by decide) (by decide) (by omega)]; exact g.1
          · rw [lit_ext g1 g5 g.2.1]; exact g.2.2 src
      · rw [ipt_o h3]
        rw [g6 a q h1 h2 h4]; exact gk a q h1 h2 h3 h4
theorem a_fill (hx : HX X L9 xs) (hN : clN sh) (hA : clA sh) {n s : Nat} {pa pb : Nat → Nat} (hF : NF I n s pa pb) (hn24 : n ≤ 60) (h4 : I 16 4 = ((s + 1 : Nat) : Int)) (h5 : I 16 5 = ((s + 1 : Nat) : Int)) (h6 : ∀ j, I 31 j = 0 ∧ I 32 j = 0) : EVv TT cl6 X mi_A_fill 5 [.ref 16] sh I J (fun I1 J1 => AL I I1 s n n pa pb ∧ J1 = J) := by
  have hs7 := hF.2.2.1
  refine gw_enter (hx_ok hx) (by decide +kernel) (Nat.le_of_ble_eq_true rfl) (L := [(0, _)]) rfl ?_
  refine lf_iconst d_A_fill_0 (v := Int32.ofInt ((0 : Nat) : Int)) rfl ?_
  refine lf_istore_n d_A_fill_1 rfl (by decide +kernel) (L2 := [(1, _), (0, _)]) rfl ?_
  refine a_fill_l hx hN hA hF hn24 (fun I1 hi => ?_) n 0 I (by omega) ⟨s + 1, fun _ => 0, fun _ => 0, fun _ => 0, ⟨h4, h5, by omega, by omega, fun j _ => h6 j, fun _ _ => ⟨rfl, rfl⟩, fun j h1 h2 => ⟨by omega, by omega⟩⟩, by omega, fun j hj => absurd hj (Nat.not_lt_zero j), fun _ _ _ _ _ _ => rfl⟩
  refine gw_ret d_A_fill_60 rfl ?_
  exact ⟨rfl, rfl, hi, rfl⟩
end AT3
