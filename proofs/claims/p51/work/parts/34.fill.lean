section VT2
variable {X : XT} {L9 : Nat} {xs : Nat → Int32} {sh : sM} {I : mI} {J : mJ}

variable {D : mF} {P : Option Value → mF → Prop} {PX : String → mF → Prop} {kc ks : Nat}

/-- the bit told of an index, as a word -/
def boi (b w : Nat) : Int64 := if b < 6 then hhv b else if w / 2 ^ (b - 6) % 2 = 0 then 0 else -1
def lvW (k : Nat) : Int64 := 1 <<< shc k
/-- the numbers of a level of the tree -/
def rngW (l : Nat) : Int64 := ((Int64.ofNat ((1 : Fin 2) : Nat)) <<< ((Int32.ofInt ((1 * 2 ^ l : Nat) : Int)).toInt64 &&& 63) - Int64.ofNat ((1 : Fin 2) : Nat)) <<< ((Int32.ofInt ((1 * 2 ^ l : Nat) : Int)).toInt64 &&& 63)
def upW (src : Nat) (t : Int64) : Nat → Nat → Int64 → Int64
  | 0, _, told => told
  | c + 1, l, told => upW src t c (l + 1) (told ||| (hhv (l - 1 - src) ^^^ t) &&& rngW l)
def upT (src : Nat) (t : Int64) : Int64 := upW src t (5 - src) (src + 1) 0
def evr (s : Nat) : Int64 := if 6 ≤ s then -1 else (Int64.ofNat ((1 : Fin 2) : Nat)) <<< ((Int32.ofInt ((1 * 2 ^ s : Nat) : Int)).toInt64 &&& 63) - Int64.ofNat ((1 : Fin 2) : Nat)
def hS (s src u : Nat) : Int64 := boi (s - 1 - src) u &&& evr s
def oS (src u : Nat) : Int64 := if u = 0 then upT src 0 else if 6 > src then boi (6 - 1 - src) u else 0
def zS (src u : Nat) : Int64 := if u = 0 then upT src (-1) else if 6 > src then boi (6 - 1 - src) u ^^^ -1 else 0
theorem v_bitOfIndex (hx : HX X L9 xs) {b u : Nat} (hb : b < 7) (hu : u < 2) : EVp TT cl6 X mi_V_bitOfIndex 1 [.int (Int32.ofInt ((b : Nat) : Int)), .int (Int32.ofInt ((u : Nat) : Int))] sh I J (.long (boi b u)) := by
  refine gw_enter (hx_ok hx) (by decide +kernel) (Nat.le_of_ble_eq_true rfl) (L := [(0, _), (1, _)]) rfl ?_
  rcases Nat.lt_or_ge b 6 with q | q
  · refine lf_iload_n d_V_bitOfIndex_0 rfl rfl ?_
    refine lf_bipush d_V_bitOfIndex_1 (v := Int32.ofInt ((6 : Nat) : Int)) (by decide +kernel) ?_
    refine gi_icmp_ge d_V_bitOfIndex_3 (tgt := 11) (by decide) (by omega) (fun hb3 => False.elim (by omega)) (fun hb3 => ?_)
    refine lf_iload_n d_V_bitOfIndex_6 rfl rfl ?_
    refine gw_callP s_V_bitOfIndex_7 (m_highHalf hx (by omega)) (S := []) rfl rfl gcR_4 (by decide) (by decide +kernel) (Nat.le_of_ble_eq_true rfl) ?_
    refine gw_lret d_V_bitOfIndex_10 rfl ?_
    exact ⟨rfl, congrArg (fun z => some (Value.long z)) (by unfold boi; rw [if_pos q]), rfl, rfl⟩
  · obtain rfl : b = 6 := by omega
    refine lf_iload_n d_V_bitOfIndex_0 rfl rfl ?_
    refine lf_bipush d_V_bitOfIndex_1 (v := Int32.ofInt ((6 : Nat) : Int)) (by decide +kernel) ?_
    refine gi_icmp_ge d_V_bitOfIndex_3 (tgt := 11) (by decide) (by omega) (fun hb3 => ?_) (fun hb3 => False.elim (by omega))
    refine lf_iload_n d_V_bitOfIndex_11 rfl rfl ?_
    refine lf_iload_n d_V_bitOfIndex_12 rfl rfl ?_
    refine lf_bipush d_V_bitOfIndex_13 (v := Int32.ofInt ((6 : Nat) : Int)) (by decide +kernel) ?_
    refine gi_isubN (a := 6) (b := 6) d_V_bitOfIndex_15 (by omega) ?_
    refine gi_ishrN (a := u) (s := (6 - 6)) d_V_bitOfIndex_16 (by omega) (by omega) ?_
    refine lf_iconst d_V_bitOfIndex_17 (v := Int32.ofInt ((1 : Nat) : Int)) rfl ?_
    refine gi_iandN (a := (u / 2 ^ (6 - 6))) (b := 1) d_V_bitOfIndex_18 ?_
    refine gi_top (show ((u / 2 ^ (6 - 6) &&& 1 : Nat) : Int) = ((u % 2 : Nat) : Int) from by rw [show (1 : Nat) = 2 ^ 1 - 1 from rfl, Nat.and_two_pow_sub_one_eq_mod]; simp) ?_
    refine gi_if_eq d_V_bitOfIndex_19 (tgt := 28) (by decide) (by omega) (fun hb19 => ?_) (fun hb19 => ?_)
    · refine lf_lconst d_V_bitOfIndex_28 rfl ?_
      refine gw_lret d_V_bitOfIndex_29 rfl ?_
      have hu2 : u / 2 ^ (6 - 6) % 2 = u % 2 := by simp
      first
        | exact ⟨rfl, congrArg (fun z => some (Value.long z)) (by unfold boi; rw [if_neg (by omega), if_pos (by omega)]; rfl), rfl, rfl⟩
        | exact ⟨rfl, congrArg (fun z => some (Value.long z)) (by unfold boi; rw [if_neg (by omega), if_neg (by omega)]; rfl), rfl, rfl⟩
    · refine gi_pushl s_V_bitOfIndex_22 ?_
      refine lf_goto d_V_bitOfIndex_25 (tgt := 29) (by decide) ?_
      refine gw_lret d_V_bitOfIndex_29 rfl ?_
      have hu2 : u / 2 ^ (6 - 6) % 2 = u % 2 := by simp
      first
        | exact ⟨rfl, congrArg (fun z => some (Value.long z)) (by unfold boi; rw [if_neg (by omega), if_pos (by omega)]; rfl), rfl, rfl⟩
        | exact ⟨rfl, congrArg (fun z => some (Value.long z)) (by unfold boi; rw [if_neg (by omega), if_neg (by omega)]; rfl), rfl, rfl⟩
theorem v_upperTree_l (hx : HX X L9 xs) {src : Nat} {t r : Int64} (hsr : src < 7) (k52 : LXf TT cl6 X mi_V_upperTree (40 + 1) (1000 + 200 * 1) D P PX kc ks 52 [(5, .int (Int32.ofInt ((6 : Nat) : Int))), (3, .long r), (0, .int (Int32.ofInt ((src : Nat) : Int))), (1, .long t)] [] (hp sh I J)) : ∀ (c l : Nat) (told : Int64), l + c = 6 → src < l → upW src t c l told = r → LXf TT cl6 X mi_V_upperTree (40 + 1) (1000 + 200 * 1) D P PX kc ks 7 [(5, .int (Int32.ofInt ((l : Nat) : Int))), (3, .long told), (0, .int (Int32.ofInt ((src : Nat) : Int))), (1, .long t)] [] (hp sh I J) := by
  intro c
  induction c with
  | zero =>
    intro l told hl hs hr
    obtain rfl : l = 6 := by omega
    have hr2 : told = r := hr
    subst hr2
    refine lf_iload d_V_upperTree_7 rfl ?_
    refine lf_bipush d_V_upperTree_9 (v := Int32.ofInt ((6 : Nat) : Int)) (by decide +kernel) ?_
    refine gi_icmp_ge d_V_upperTree_11 (tgt := 52) (by decide) (by omega) (fun hb11 => ?_) (fun hb11 => False.elim (by omega))
    exact k52
  | succ c ih =>
    intro l told hl hs hr
    refine lf_iload d_V_upperTree_7 rfl ?_
    refine lf_bipush d_V_upperTree_9 (v := Int32.ofInt ((6 : Nat) : Int)) (by decide +kernel) ?_
    refine gi_icmp_ge d_V_upperTree_11 (tgt := 52) (by decide) (by omega) (fun hb11 => False.elim (by omega)) (fun hb11 => ?_)
    refine lf_lconst d_V_upperTree_14 rfl ?_
    refine lf_iconst d_V_upperTree_15 (v := Int32.ofInt ((1 : Nat) : Int)) rfl ?_
    refine lf_iload d_V_upperTree_16 rfl ?_
    refine gi_ishlN (a := 1) (s := l) d_V_upperTree_18 (by omega) ?_
    refine lf_lshl d_V_upperTree_19 ?_
    refine lf_lconst d_V_upperTree_20 rfl ?_
    refine lf_lsub d_V_upperTree_21 ?_
    refine lf_iconst d_V_upperTree_22 (v := Int32.ofInt ((1 : Nat) : Int)) rfl ?_
    refine lf_iload d_V_upperTree_23 rfl ?_
    refine gi_ishlN (a := 1) (s := l) d_V_upperTree_25 (by omega) ?_
    refine lf_lshl d_V_upperTree_26 ?_
    refine lf_lstore d_V_upperTree_27 (by decide +kernel) (L2 := [(6, _), (5, _), (3, _), (0, _), (1, _)]) rfl ?_
    refine lf_lload_n d_V_upperTree_29 rfl rfl ?_
    refine lf_iload d_V_upperTree_30 rfl ?_
    refine lf_iconst d_V_upperTree_32 (v := Int32.ofInt ((1 : Nat) : Int)) rfl ?_
    refine gi_isubN (a := l) (b := 1) d_V_upperTree_33 (by omega) ?_
    refine lf_iload_n d_V_upperTree_34 rfl rfl ?_
    refine gi_isubN (a := (l - 1)) (b := src) d_V_upperTree_35 (by omega) ?_
    refine gw_callP s_V_upperTree_36 (m_highHalf hx (by omega)) (S := [_]) rfl rfl gcR_4 (by decide) (by decide +kernel) (Nat.le_of_ble_eq_true rfl) ?_
    refine lf_lload_n d_V_upperTree_39 rfl rfl ?_
    refine lf_lxor d_V_upperTree_40 ?_
    refine lf_lload d_V_upperTree_41 rfl ?_
    refine lf_land d_V_upperTree_43 ?_
    refine lf_lor d_V_upperTree_44 ?_
    refine lf_lstore_n d_V_upperTree_45 rfl (by decide +kernel) (L2 := [(3, _), (6, _), (5, _), (0, _), (1, _)]) rfl ?_
    refine gi_iincN d_V_upperTree_46 rfl (by decide +kernel) (L2 := [(5, _), (3, _), (6, _), (0, _), (1, _)]) rfl ?_
    refine lf_goto d_V_upperTree_49 (tgt := 7) (by decide) ?_
    refine lf_sub [0, 1, 3, 4] rfl ?_
    exact ih (l + 1) _ (by omega) (by omega) hr
theorem v_upperTree (hx : HX X L9 xs) {src : Nat} {t : Int64} (hs : src < 7) : EVp TT cl6 X mi_V_upperTree 1 [.int (Int32.ofInt ((src : Nat) : Int)), .long t] sh I J (.long (upT src t)) := by
  refine gw_enter (hx_ok hx) (by decide +kernel) (Nat.le_of_ble_eq_true rfl) (L := [(0, _), (1, _)]) rfl ?_
  rcases Nat.lt_or_ge src 6 with q | q
  · refine lf_lconst d_V_upperTree_0 rfl ?_
    refine lf_lstore_n d_V_upperTree_1 rfl (by decide +kernel) (L2 := [(3, _), (0, _), (1, _)]) rfl ?_
    refine lf_iload_n d_V_upperTree_2 rfl rfl ?_
    refine lf_iconst d_V_upperTree_3 (v := Int32.ofInt ((1 : Nat) : Int)) rfl ?_
    refine gi_iaddN (a := src) (b := 1) d_V_upperTree_4 ?_
    refine lf_istore d_V_upperTree_5 (by decide +kernel) (L2 := [(5, _), (3, _), (0, _), (1, _)]) rfl ?_
    refine v_upperTree_l hx hs ?_ (5 - src) (src + 1) 0 (by omega) (by omega) rfl
    refine lf_lload_n d_V_upperTree_52 rfl rfl ?_
    refine gw_lret d_V_upperTree_53 rfl ?_
    exact ⟨rfl, rfl, rfl, rfl⟩
  · obtain rfl : src = 6 := by omega
    refine lf_lconst d_V_upperTree_0 rfl ?_
    refine lf_lstore_n d_V_upperTree_1 rfl (by decide +kernel) (L2 := [(3, _), (0, _), (1, _)]) rfl ?_
    refine lf_iload_n d_V_upperTree_2 rfl rfl ?_
    refine lf_iconst d_V_upperTree_3 (v := Int32.ofInt ((1 : Nat) : Int)) rfl ?_
    refine gi_iaddN (a := 6) (b := 1) d_V_upperTree_4 ?_
    refine lf_istore d_V_upperTree_5 (by decide +kernel) (L2 := [(5, _), (3, _), (0, _), (1, _)]) rfl ?_
    refine lf_iload d_V_upperTree_7 rfl ?_
    refine lf_bipush d_V_upperTree_9 (v := Int32.ofInt ((6 : Nat) : Int)) (by decide +kernel) ?_
    refine gi_icmp_ge d_V_upperTree_11 (tgt := 52) (by decide) (by omega) (fun hb11 => ?_) (fun hb11 => False.elim (by omega))
    refine lf_lload_n d_V_upperTree_52 rfl rfl ?_
    refine gw_lret d_V_upperTree_53 rfl ?_
    exact ⟨rfl, rfl, rfl, rfl⟩
/-- of three arrays, only the words of a line -/
def jKeep (J J1 : mJ) (k w : Nat) : Prop := ∀ a q, ((a = 26 ∨ a = 27 ∨ a = 28) → ∀ u, u < w → ¬ q = k * w + u) → J1 a q = J a q
theorem jKeep_put {J J1 : mJ} {k w a u : Nat} {x : Int64} (h : jKeep J J1 k w) (ha : a = 26 ∨ a = 27 ∨ a = 28) (hu : u < w) : jKeep J (jpt J1 a (k * w + u) x) k w := by
  intro b q hb
  by_cases e : b = a
  · subst e
    rw [jpt_s, if_neg (hb ha u hu)]
    exact h b q hb
  · rw [jpt_o e]
    exact h b q hb
theorem jpt_at {J : mJ} {a q b r : Nat} {x : Int64} (h : ¬ (b = a ∧ r = q)) : jpt J a q x b r = J b r := by
  unfold jpt
  by_cases e : b = a
  · rw [if_pos e, if_neg (fun e2 => h ⟨e, e2⟩)]
  · rw [if_neg e]
theorem v_fillSource_l (hx : HX X L9 xs) {n w : Nat} (hV : clV sh n w) {s : Nat} (hs : I 15 1 = s) (hsw : (s ≤ 6 ∧ w = 1) ∨ (s = 7 ∧ w = 2)) (hn2 : n ≤ 80) (hw : I 15 2 = w) (he : J 15 3 = evr s) {k src : Nat} (hk : k < n) (hsrc : src < s)  (k156 : ∀ J1 : mJ, jKeep J J1 k w → (∀ u, u < w → J1 26 (k * w + u) = hS s src u ∧ J1 28 (k * w + u) = oS src u ∧ J1 27 (k * w + u) = zS src u) → LXf TT cl6 X mi_V_fillSource (40 + 2) (1000 + 200 * 2) D P PX kc ks 156 [(3, .int (Int32.ofInt ((w : Nat) : Int))), (0, .ref 15), (1, .int (Int32.ofInt ((k : Nat) : Int))), (2, .int (Int32.ofInt ((src : Nat) : Int)))] [] (hp sh I J1)) : ∀ (c u : Nat) (J1 : mJ), u + c = w → jKeep J J1 k w → (∀ v, v < u → J1 26 (k * w + v) = hS s src v ∧ J1 28 (k * w + v) = oS src v ∧ J1 27 (k * w + v) = zS src v) → (∀ v, u ≤ v → v < w → J1 27 (k * w + v) = 0 ∧ J1 28 (k * w + v) = 0) → LXf TT cl6 X mi_V_fillSource (40 + 2) (1000 + 200 * 2) D P PX kc ks 2 [(3, .int (Int32.ofInt ((u : Nat) : Int))), (0, .ref 15), (1, .int (Int32.ofInt ((k : Nat) : Int))), (2, .int (Int32.ofInt ((src : Nat) : Int)))] [] (hp sh I J1) := by
  intro c
  induction c with
  | zero =>
    intro u J1 hu hj hg hz
    obtain rfl : u = w := by omega
    refine lf_iload_n d_V_fillSource_2 rfl rfl ?_
    refine lf_aload_n d_V_fillSource_3 rfl rfl rfl ?_
    refine gi_geti s_V_fillSource_4 (c_15 hV) rfl ?_
    refine gi_top hw ?_
    refine gi_icmp_ge d_V_fillSource_7 (tgt := 156) (by decide) (by omega) (fun hb7 => ?_) (fun hb7 => False.elim (by omega))
    exact k156 J1 hj hg
  | succ c ih =>
    intro u J1 hu hj hg hz
    have he1 : J1 15 3 = evr s := by rw [hj 15 3 (fun q => by omega)]; exact he
    have hzu := hz u (Nat.le_refl u) (by omega)
    rcases Nat.lt_or_ge 0 u with q0 | q0
    · obtain rfl : u = 1 := by omega
      have hs7 : s = 7 := by omega
      rcases Nat.lt_or_ge src 6 with q1 | q1
      · skip
        refine lf_iload_n d_V_fillSource_2 rfl rfl ?_
        refine lf_aload_n d_V_fillSource_3 rfl rfl rfl ?_
        refine gi_geti s_V_fillSource_4 (c_15 hV) rfl ?_
        refine gi_top hw ?_
        refine gi_icmp_ge d_V_fillSource_7 (tgt := 156) (by decide) (by omega) (fun hb7 => False.elim (by omega)) (fun hb7 => ?_)
        refine lf_iload_n d_V_fillSource_10 rfl rfl ?_
        refine lf_aload_n d_V_fillSource_11 rfl rfl rfl ?_
        refine gi_geti s_V_fillSource_12 (c_15 hV) rfl ?_
        refine gi_top hw ?_
        refine gi_imulN (a := k) (b := w) d_V_fillSource_15 ?_
        refine lf_iload_n d_V_fillSource_16 rfl rfl ?_
        refine gi_iaddN (a := (k * w)) (b := 1) d_V_fillSource_17 ?_
        refine lf_istore d_V_fillSource_18 (by decide +kernel) (L2 := [(4, _), (3, _), (0, _), (1, _), (2, _)]) rfl ?_
        refine lf_aload_n d_V_fillSource_20 rfl rfl rfl ?_
        refine gi_getr s_V_fillSource_21 (c_15 hV) rfl ?_
        refine lf_iload d_V_fillSource_24 rfl ?_
        refine lf_aload_n d_V_fillSource_26 rfl rfl rfl ?_
        refine gi_geti s_V_fillSource_27 (c_15 hV) rfl ?_
        refine gi_top hs ?_
        refine lf_iconst d_V_fillSource_30 (v := Int32.ofInt ((1 : Nat) : Int)) rfl ?_
        refine gi_isubN (a := s) (b := 1) d_V_fillSource_31 (by omega) ?_
        refine lf_iload_n d_V_fillSource_32 rfl rfl ?_
        refine gi_isubN (a := (s - 1)) (b := src) d_V_fillSource_33 (by omega) ?_
        refine lf_iload_n d_V_fillSource_34 rfl rfl ?_
        refine gw_callP s_V_fillSource_35 (v_bitOfIndex hx (by omega) (by omega)) (S := [_, _]) rfl rfl gcR_1 (by decide) (by decide +kernel) (Nat.le_of_ble_eq_true rfl) ?_
        refine lf_aload_n d_V_fillSource_38 rfl rfl rfl ?_
        refine gi_getl s_V_fillSource_39 (c_15 hV) rfl ?_
        refine gi_topL he1 ?_
        refine lf_land d_V_fillSource_42 ?_
        refine gw_callV s_V_fillSource_43 (m_putWordN hx (c_26 hV) ⟨kw_lt hk (by omega), nw_le hn2 (by omega)⟩) (S := []) rfl rfl gcR_4 (by decide) (by decide +kernel) (Nat.le_of_ble_eq_true rfl) (fun I J w43 => ?_)
        obtain ⟨rfl, rfl⟩ := w43
        refine lf_iconst d_V_fillSource_46 (v := Int32.ofInt ((5 : Nat) : Int)) rfl ?_
        refine lf_istore d_V_fillSource_47 (by decide +kernel) (L2 := [(5, _), (4, _), (3, _), (0, _), (1, _), (2, _)]) rfl ?_
        refine lf_iload_n d_V_fillSource_49 rfl rfl ?_
        refine lf_istore d_V_fillSource_50 (by decide +kernel) (L2 := [(6, _), (5, _), (4, _), (3, _), (0, _), (1, _), (2, _)]) rfl ?_
        skip
        refine lf_iload d_V_fillSource_52 rfl ?_
        refine gi_if_le d_V_fillSource_54 (tgt := 69) (by decide) (by omega) (fun hb54 => False.elim (by omega)) (fun hb54 => ?_)
        refine gi_iincN d_V_fillSource_57 rfl (by decide +kernel) (L2 := [(5, _), (6, _), (4, _), (3, _), (0, _), (1, _), (2, _)]) rfl ?_
        refine lf_iload d_V_fillSource_60 rfl ?_
        refine lf_iconst d_V_fillSource_62 (v := Int32.ofInt ((1 : Nat) : Int)) rfl ?_
        refine gi_ishrN (a := 1) (s := 1) d_V_fillSource_63 (by decide) (by decide) ?_
        refine lf_istore d_V_fillSource_64 (by decide +kernel) (L2 := [(6, _), (5, _), (4, _), (3, _), (0, _), (1, _), (2, _)]) rfl ?_
        refine lf_goto d_V_fillSource_66 (tgt := 52) (by decide) ?_
        skip
        refine lf_iload d_V_fillSource_52 rfl ?_
        refine gi_if_le d_V_fillSource_54 (tgt := 69) (by decide) (by omega) (fun hb54 => ?_) (fun hb54 => False.elim (by omega))
        refine lf_iload_n d_V_fillSource_69 rfl rfl ?_
        refine gi_if_ne d_V_fillSource_70 (tgt := 106) (by decide) (by omega) (fun hb70 => ?_) (fun hb70 => False.elim (by omega))
        refine lf_iload d_V_fillSource_106 rfl ?_
        refine lf_iload_n d_V_fillSource_108 rfl rfl ?_
        refine gi_icmp_le d_V_fillSource_109 (tgt := 150) (by decide) (by omega) (fun hb109 => False.elim (by omega)) (fun hb109 => ?_)
        refine lf_iload d_V_fillSource_112 rfl ?_
        refine lf_iconst d_V_fillSource_114 (v := Int32.ofInt ((1 : Nat) : Int)) rfl ?_
        refine gi_isubN (a := (5 + 1)) (b := 1) d_V_fillSource_115 (by omega) ?_
        refine lf_iload_n d_V_fillSource_116 rfl rfl ?_
        refine gi_isubN (a := ((5 + 1) - 1)) (b := src) d_V_fillSource_117 (by omega) ?_
        refine lf_iload_n d_V_fillSource_118 rfl rfl ?_
        refine gw_callP s_V_fillSource_119 (v_bitOfIndex hx (by omega) (by omega)) (S := []) rfl rfl gcR_1 (by decide) (by decide +kernel) (Nat.le_of_ble_eq_true rfl) ?_
        refine lf_lstore d_V_fillSource_122 (by decide +kernel) (L2 := [(6, _), (5, _), (4, _), (3, _), (0, _), (1, _), (2, _)]) rfl ?_
        refine lf_aload_n d_V_fillSource_124 rfl rfl rfl ?_
        refine gi_getr s_V_fillSource_125 (c_15 hV) rfl ?_
        refine lf_iload d_V_fillSource_128 rfl ?_
        refine lf_lload d_V_fillSource_130 rfl ?_
        refine gw_callV s_V_fillSource_132 (m_putWordN hx (c_28 hV) ⟨kw_lt hk (by omega), nw_le hn2 (by omega)⟩) (S := []) rfl rfl gcR_4 (by decide) (by decide +kernel) (Nat.le_of_ble_eq_true rfl) (fun I J w132 => ?_)
        obtain ⟨rfl, rfl⟩ := w132
        refine lf_aload_n d_V_fillSource_135 rfl rfl rfl ?_
        refine gi_getr s_V_fillSource_136 (c_15 hV) rfl ?_
        refine lf_iload d_V_fillSource_139 rfl ?_
        refine lf_lload d_V_fillSource_141 rfl ?_
        refine gi_pushl s_V_fillSource_143 ?_
        refine lf_lxor d_V_fillSource_146 ?_
        refine gw_callV s_V_fillSource_147 (m_putWordN hx (c_27 hV) ⟨kw_lt hk (by omega), nw_le hn2 (by omega)⟩) (S := []) rfl rfl gcR_4 (by decide) (by decide +kernel) (Nat.le_of_ble_eq_true rfl) (fun I J w147 => ?_)
        obtain ⟨rfl, rfl⟩ := w147
        refine gi_iincN d_V_fillSource_150 rfl (by decide +kernel) (L2 := [(3, _), (6, _), (5, _), (4, _), (0, _), (1, _), (2, _)]) rfl ?_
        refine lf_goto d_V_fillSource_153 (tgt := 2) (by decide) ?_
        refine lf_sub [0, 4, 5, 6] rfl ?_
        refine ih 2 _ (by omega) (jKeep_put (jKeep_put (jKeep_put hj (Or.inl rfl) (by omega)) (Or.inr (Or.inr rfl)) (by omega)) (Or.inr (Or.inl rfl)) (by omega)) (fun v hv => ?_) (fun v hv hv2 => absurd hv2 (by omega))
        rcases Nat.lt_or_ge 0 v with q | q
        · obtain rfl : v = 1 := by omega
          refine ⟨?_, ?_, ?_⟩
          · rw [jpt_at (by omega), jpt_at (by omega), jpt_e]; rfl
          · rw [jpt_at (by omega), jpt_e]; unfold oS; rw [if_neg (by omega), if_pos (by omega)]
          · rw [jpt_e]; unfold zS; rw [if_neg (by omega), if_pos (by omega)]; rfl
        · obtain rfl : v = 0 := by omega
          have g := hg 0 (by omega)
          refine ⟨?_, ?_, ?_⟩
          · rw [jpt_at (by omega), jpt_at (by omega), jpt_at (by omega)]; exact g.1
          · rw [jpt_at (by omega), jpt_at (by omega), jpt_at (by omega)]; exact g.2.1
          · rw [jpt_at (by omega), jpt_at (by omega), jpt_at (by omega)]; exact g.2.2
      · obtain rfl : src = 6 := by omega
        refine lf_iload_n d_V_fillSource_2 rfl rfl ?_
        refine lf_aload_n d_V_fillSource_3 rfl rfl rfl ?_
        refine gi_geti s_V_fillSource_4 (c_15 hV) rfl ?_
        refine gi_top hw ?_
        refine gi_icmp_ge d_V_fillSource_7 (tgt := 156) (by decide) (by omega) (fun hb7 => False.elim (by omega)) (fun hb7 => ?_)
        refine lf_iload_n d_V_fillSource_10 rfl rfl ?_
        refine lf_aload_n d_V_fillSource_11 rfl rfl rfl ?_
        refine gi_geti s_V_fillSource_12 (c_15 hV) rfl ?_
        refine gi_top hw ?_
        refine gi_imulN (a := k) (b := w) d_V_fillSource_15 ?_
        refine lf_iload_n d_V_fillSource_16 rfl rfl ?_
        refine gi_iaddN (a := (k * w)) (b := 1) d_V_fillSource_17 ?_
        refine lf_istore d_V_fillSource_18 (by decide +kernel) (L2 := [(4, _), (3, _), (0, _), (1, _), (2, _)]) rfl ?_
        refine lf_aload_n d_V_fillSource_20 rfl rfl rfl ?_
        refine gi_getr s_V_fillSource_21 (c_15 hV) rfl ?_
        refine lf_iload d_V_fillSource_24 rfl ?_
        refine lf_aload_n d_V_fillSource_26 rfl rfl rfl ?_
        refine gi_geti s_V_fillSource_27 (c_15 hV) rfl ?_
        refine gi_top hs ?_
        refine lf_iconst d_V_fillSource_30 (v := Int32.ofInt ((1 : Nat) : Int)) rfl ?_
        refine gi_isubN (a := s) (b := 1) d_V_fillSource_31 (by omega) ?_
        refine lf_iload_n d_V_fillSource_32 rfl rfl ?_
        refine gi_isubN (a := (s - 1)) (b := 6) d_V_fillSource_33 (by omega) ?_
        refine lf_iload_n d_V_fillSource_34 rfl rfl ?_
        refine gw_callP s_V_fillSource_35 (v_bitOfIndex hx (by omega) (by omega)) (S := [_, _]) rfl rfl gcR_1 (by decide) (by decide +kernel) (Nat.le_of_ble_eq_true rfl) ?_
        refine lf_aload_n d_V_fillSource_38 rfl rfl rfl ?_
        refine gi_getl s_V_fillSource_39 (c_15 hV) rfl ?_
        refine gi_topL he1 ?_
        refine lf_land d_V_fillSource_42 ?_
        refine gw_callV s_V_fillSource_43 (m_putWordN hx (c_26 hV) ⟨kw_lt hk (by omega), nw_le hn2 (by omega)⟩) (S := []) rfl rfl gcR_4 (by decide) (by decide +kernel) (Nat.le_of_ble_eq_true rfl) (fun I J w43 => ?_)
        obtain ⟨rfl, rfl⟩ := w43
        refine lf_iconst d_V_fillSource_46 (v := Int32.ofInt ((5 : Nat) : Int)) rfl ?_
        refine lf_istore d_V_fillSource_47 (by decide +kernel) (L2 := [(5, _), (4, _), (3, _), (0, _), (1, _), (2, _)]) rfl ?_
        refine lf_iload_n d_V_fillSource_49 rfl rfl ?_
        refine lf_istore d_V_fillSource_50 (by decide +kernel) (L2 := [(6, _), (5, _), (4, _), (3, _), (0, _), (1, _), (2, _)]) rfl ?_
        skip
        refine lf_iload d_V_fillSource_52 rfl ?_
        refine gi_if_le d_V_fillSource_54 (tgt := 69) (by decide) (by omega) (fun hb54 => False.elim (by omega)) (fun hb54 => ?_)
        refine gi_iincN d_V_fillSource_57 rfl (by decide +kernel) (L2 := [(5, _), (6, _), (4, _), (3, _), (0, _), (1, _), (2, _)]) rfl ?_
        refine lf_iload d_V_fillSource_60 rfl ?_
        refine lf_iconst d_V_fillSource_62 (v := Int32.ofInt ((1 : Nat) : Int)) rfl ?_
        refine gi_ishrN (a := 1) (s := 1) d_V_fillSource_63 (by decide) (by decide) ?_
        refine lf_istore d_V_fillSource_64 (by decide +kernel) (L2 := [(6, _), (5, _), (4, _), (3, _), (0, _), (1, _), (2, _)]) rfl ?_
        refine lf_goto d_V_fillSource_66 (tgt := 52) (by decide) ?_
        skip
        refine lf_iload d_V_fillSource_52 rfl ?_
        refine gi_if_le d_V_fillSource_54 (tgt := 69) (by decide) (by omega) (fun hb54 => ?_) (fun hb54 => False.elim (by omega))
        refine lf_iload_n d_V_fillSource_69 rfl rfl ?_
        refine gi_if_ne d_V_fillSource_70 (tgt := 106) (by decide) (by omega) (fun hb70 => ?_) (fun hb70 => False.elim (by omega))
        refine lf_iload d_V_fillSource_106 rfl ?_
        refine lf_iload_n d_V_fillSource_108 rfl rfl ?_
        refine gi_icmp_le d_V_fillSource_109 (tgt := 150) (by decide) (by omega) (fun hb109 => ?_) (fun hb109 => False.elim (by omega))
        refine gi_iincN d_V_fillSource_150 rfl (by decide +kernel) (L2 := [(3, _), (6, _), (5, _), (4, _), (0, _), (1, _), (2, _)]) rfl ?_
        refine lf_goto d_V_fillSource_153 (tgt := 2) (by decide) ?_
        refine lf_sub [0, 4, 5, 6] rfl ?_
        refine ih 2 _ (by omega) (jKeep_put hj (Or.inl rfl) (by omega)) (fun v hv => ?_) (fun v hv hv2 => absurd hv2 (by omega))
        rcases Nat.lt_or_ge 0 v with q | q
        · obtain rfl : v = 1 := by omega
          refine ⟨?_, ?_, ?_⟩
          · rw [jpt_e]; rfl
          · rw [jpt_at (by omega), hzu.2]; rfl
          · rw [jpt_at (by omega), hzu.1]; rfl
        · obtain rfl : v = 0 := by omega
          have g := hg 0 (by omega)
          exact ⟨by rw [jpt_at (by omega)]; exact g.1, by rw [jpt_at (by omega)]; exact g.2.1, by rw [jpt_at (by omega)]; exact g.2.2⟩
    · obtain rfl : u = 0 := by omega
      refine lf_iload_n d_V_fillSource_2 rfl rfl ?_
      refine lf_aload_n d_V_fillSource_3 rfl rfl rfl ?_
      refine gi_geti s_V_fillSource_4 (c_15 hV) rfl ?_
      refine gi_top hw ?_
      refine gi_icmp_ge d_V_fillSource_7 (tgt := 156) (by decide) (by omega) (fun hb7 => False.elim (by omega)) (fun hb7 => ?_)
      refine lf_iload_n d_V_fillSource_10 rfl rfl ?_
      refine lf_aload_n d_V_fillSource_11 rfl rfl rfl ?_
      refine gi_geti s_V_fillSource_12 (c_15 hV) rfl ?_
      refine gi_top hw ?_
      refine gi_imulN (a := k) (b := w) d_V_fillSource_15 ?_
      refine lf_iload_n d_V_fillSource_16 rfl rfl ?_
      refine gi_iaddN (a := (k * w)) (b := 0) d_V_fillSource_17 ?_
      refine lf_istore d_V_fillSource_18 (by decide +kernel) (L2 := [(4, _), (3, _), (0, _), (1, _), (2, _)]) rfl ?_
      refine lf_aload_n d_V_fillSource_20 rfl rfl rfl ?_
      refine gi_getr s_V_fillSource_21 (c_15 hV) rfl ?_
      refine lf_iload d_V_fillSource_24 rfl ?_
      refine lf_aload_n d_V_fillSource_26 rfl rfl rfl ?_
      refine gi_geti s_V_fillSource_27 (c_15 hV) rfl ?_
      refine gi_top hs ?_
      refine lf_iconst d_V_fillSource_30 (v := Int32.ofInt ((1 : Nat) : Int)) rfl ?_
      refine gi_isubN (a := s) (b := 1) d_V_fillSource_31 (by omega) ?_
      refine lf_iload_n d_V_fillSource_32 rfl rfl ?_
      refine gi_isubN (a := (s - 1)) (b := src) d_V_fillSource_33 (by omega) ?_
      refine lf_iload_n d_V_fillSource_34 rfl rfl ?_
      refine gw_callP s_V_fillSource_35 (v_bitOfIndex hx (by omega) (by omega)) (S := [_, _]) rfl rfl gcR_1 (by decide) (by decide +kernel) (Nat.le_of_ble_eq_true rfl) ?_
      refine lf_aload_n d_V_fillSource_38 rfl rfl rfl ?_
      refine gi_getl s_V_fillSource_39 (c_15 hV) rfl ?_
      refine gi_topL he1 ?_
      refine lf_land d_V_fillSource_42 ?_
      refine gw_callV s_V_fillSource_43 (m_putWordN hx (c_26 hV) ⟨kw_lt hk (by omega), nw_le hn2 (by omega)⟩) (S := []) rfl rfl gcR_4 (by decide) (by decide +kernel) (Nat.le_of_ble_eq_true rfl) (fun I J w43 => ?_)
      obtain ⟨rfl, rfl⟩ := w43
      refine lf_iconst d_V_fillSource_46 (v := Int32.ofInt ((5 : Nat) : Int)) rfl ?_
      refine lf_istore d_V_fillSource_47 (by decide +kernel) (L2 := [(5, _), (4, _), (3, _), (0, _), (1, _), (2, _)]) rfl ?_
      refine lf_iload_n d_V_fillSource_49 rfl rfl ?_
      refine lf_istore d_V_fillSource_50 (by decide +kernel) (L2 := [(6, _), (5, _), (4, _), (3, _), (0, _), (1, _), (2, _)]) rfl ?_
      refine lf_iload d_V_fillSource_52 rfl ?_
      refine gi_if_le d_V_fillSource_54 (tgt := 69) (by decide) (by omega) (fun hb54 => ?_) (fun hb54 => False.elim (by omega))
      refine lf_iload_n d_V_fillSource_69 rfl rfl ?_
      refine gi_if_ne d_V_fillSource_70 (tgt := 106) (by decide) (by omega) (fun hb70 => False.elim (by omega)) (fun hb70 => ?_)
      refine lf_aload_n d_V_fillSource_73 rfl rfl rfl ?_
      refine gi_getr s_V_fillSource_74 (c_15 hV) rfl ?_
      refine lf_iload d_V_fillSource_77 rfl ?_
      refine lf_iload_n d_V_fillSource_79 rfl rfl ?_
      refine lf_lconst d_V_fillSource_80 rfl ?_
      refine gw_callP s_V_fillSource_81 (v_upperTree hx (by omega)) (S := [_, _]) rfl rfl gcR_1 (by decide) (by decide +kernel) (Nat.le_of_ble_eq_true rfl) ?_
      refine gw_callV s_V_fillSource_84 (m_putWordN hx (c_28 hV) ⟨kw_lt hk (by omega), nw_le hn2 (by omega)⟩) (S := []) rfl rfl gcR_4 (by decide) (by decide +kernel) (Nat.le_of_ble_eq_true rfl) (fun I J w84 => ?_)
      obtain ⟨rfl, rfl⟩ := w84
      refine lf_aload_n d_V_fillSource_87 rfl rfl rfl ?_
      refine gi_getr s_V_fillSource_88 (c_15 hV) rfl ?_
      refine lf_iload d_V_fillSource_91 rfl ?_
      refine lf_iload_n d_V_fillSource_93 rfl rfl ?_
      refine gi_pushl s_V_fillSource_94 ?_
      refine gw_callP s_V_fillSource_97 (v_upperTree hx (by omega)) (S := [_, _]) rfl rfl gcR_1 (by decide) (by decide +kernel) (Nat.le_of_ble_eq_true rfl) ?_
      refine gw_callV s_V_fillSource_100 (m_putWordN hx (c_27 hV) ⟨kw_lt hk (by omega), nw_le hn2 (by omega)⟩) (S := []) rfl rfl gcR_4 (by decide) (by decide +kernel) (Nat.le_of_ble_eq_true rfl) (fun I J w100 => ?_)
      obtain ⟨rfl, rfl⟩ := w100
      refine lf_goto d_V_fillSource_103 (tgt := 150) (by decide) ?_
      refine gi_iincN d_V_fillSource_150 rfl (by decide +kernel) (L2 := [(3, _), (6, _), (5, _), (4, _), (0, _), (1, _), (2, _)]) rfl ?_
      refine lf_goto d_V_fillSource_153 (tgt := 2) (by decide) ?_
      refine lf_sub [0, 4, 5, 6] rfl ?_
      refine ih 1 _ (by omega) (jKeep_put (jKeep_put (jKeep_put hj (Or.inl rfl) (by omega)) (Or.inr (Or.inr rfl)) (by omega)) (Or.inr (Or.inl rfl)) (by omega)) (fun v hv => ?_) (fun v hv hv2 => ?_)
      · obtain rfl : v = 0 := by omega
        refine ⟨?_, ?_, ?_⟩
        · rw [jpt_at (by omega), jpt_at (by omega), jpt_e]; rfl
        · rw [jpt_at (by omega), jpt_e]; rfl
        · rw [jpt_e]; rfl
      · have g := hz v (by omega) hv2
        exact ⟨by rw [jpt_at (by omega), jpt_at (by omega), jpt_at (by omega)]; exact g.1, by rw [jpt_at (by omega), jpt_at (by omega), jpt_at (by omega)]; exact g.2⟩
theorem v_fillSource (hx : HX X L9 xs) {n w : Nat} (hV : clV sh n w) {s : Nat} (hs : I 15 1 = s) (hsw : (s ≤ 6 ∧ w = 1) ∨ (s = 7 ∧ w = 2)) (hn2 : n ≤ 80) (hw : I 15 2 = w) (he : J 15 3 = evr s) {k src : Nat} (hk : k < n) (hsrc : src < s) (hz : ∀ v, v < w → J 27 (k * w + v) = 0 ∧ J 28 (k * w + v) = 0) : EVv TT cl6 X mi_V_fillSource 2 [.ref 15, .int (Int32.ofInt ((k : Nat) : Int)), .int (Int32.ofInt ((src : Nat) : Int))] sh I J (fun I1 J1 => I1 = I ∧ jKeep J J1 k w ∧ ∀ u, u < w → J1 26 (k * w + u) = hS s src u ∧ J1 28 (k * w + u) = oS src u ∧ J1 27 (k * w + u) = zS src u) := by
  refine gw_enter (hx_ok hx) (by decide +kernel) (Nat.le_of_ble_eq_true rfl) (L := [(0, _), (1, _), (2, _)]) rfl ?_
  refine lf_iconst d_V_fillSource_0 (v := Int32.ofInt ((0 : Nat) : Int)) rfl ?_
  refine lf_istore_n d_V_fillSource_1 rfl (by decide +kernel) (L2 := [(3, _), (0, _), (1, _), (2, _)]) rfl ?_
  refine v_fillSource_l hx hV hs hsw hn2 hw he hk hsrc (fun J1 hj hg => ?_) w 0 J (by omega) (fun _ _ _ => rfl) (fun v hv => absurd hv (Nat.not_lt_zero v)) (fun v _ hv => hz v hv)
  refine gw_ret d_V_fillSource_156 rfl ?_
  exact ⟨rfl, rfl, rfl, hj, hg⟩
theorem j_fill_l (hx : HX X L9 xs) {i n : Nat} {x : Int} {f : Nat → Option Nat} (hs : sh i = some (.inl (.int, n, 0, f))) (hn : n ≤ 2147483647) (k20 : ∀ I1 : mI, (∀ a, ¬ a = i → I1 a = I a) → (∀ j, j < n → I1 i j = x) → LXf TT cl6 X mi_J_fill (40 + 1) (1000 + 200 * 1) D P PX kc ks 20 [(3, .int (Int32.ofInt ((n : Nat) : Int))), (2, .int (Int32.ofInt ((n : Nat) : Int))), (0, .ref i), (1, .int (Int32.ofInt (x)))] [] (hp sh I1 J)) : ∀ (c k : Nat) (I1 : mI), k + c = n → (∀ a, ¬ a = i → I1 a = I a) → (∀ j, j < k → I1 i j = x) → LXf TT cl6 X mi_J_fill (40 + 1) (1000 + 200 * 1) D P PX kc ks 5 [(3, .int (Int32.ofInt ((n : Nat) : Int))), (2, .int (Int32.ofInt ((k : Nat) : Int))), (0, .ref i), (1, .int (Int32.ofInt (x)))] [] (hp sh I1 J) := by
  intro c
  induction c with
  | zero =>
    intro k I1 hk he hg
    obtain rfl : k = n := by omega
    refine lf_iload_n d_J_fill_5 rfl rfl ?_
    refine lf_iload_n d_J_fill_6 rfl rfl ?_
    refine gi_icmp_ge d_J_fill_7 (tgt := 20) (by decide) (by omega) (fun hb7 => ?_) (fun hb7 => False.elim (by omega))
    exact k20 I1 he hg
  | succ c ih =>
    intro k I1 hk he hg
    refine lf_iload_n d_J_fill_5 rfl rfl ?_
    refine lf_iload_n d_J_fill_6 rfl rfl ?_
    refine gi_icmp_ge d_J_fill_7 (tgt := 20) (by decide) (by omega) (fun hb7 => False.elim (by omega)) (fun hb7 => ?_)
    refine lf_aload_n d_J_fill_10 rfl rfl rfl ?_
    refine lf_iload_n d_J_fill_11 rfl rfl ?_
    refine lf_iload_n d_J_fill_12 rfl rfl ?_
    refine gi_iastoreN d_J_fill_13 hs (by omega) ?_
    refine gi_iincN d_J_fill_14 rfl (by decide +kernel) (L2 := [(2, _), (3, _), (0, _), (1, _)]) rfl ?_
    refine lf_goto d_J_fill_17 (tgt := 5) (by decide) ?_
    refine lf_sub [1, 0, 2, 3] rfl ?_
    refine ih (k + 1) _ (by omega) (fun a ha => by rw [ipt_o ha]; exact he a ha) (fun j hj => ?_)
    rw [ipt_s]
    by_cases q : j = k
    · rw [if_pos q]
    · rw [if_neg q]; exact hg j (by omega)
theorem j_fill (hx : HX X L9 xs) {i n : Nat} {x : Int} {f : Nat → Option Nat} (hs : sh i = some (.inl (.int, n, 0, f))) (hn : n ≤ 2147483647) : EVv TT cl6 X mi_J_fill 1 [.ref i, .int (Int32.ofInt (x))] sh I J (fun I1 J1 => (∀ a, ¬ a = i → I1 a = I a) ∧ (∀ j, j < n → I1 i j = x) ∧ J1 = J) := by
  refine gw_enter (hx_ok hx) (by decide +kernel) (Nat.le_of_ble_eq_true rfl) (L := [(0, _), (1, _)]) rfl ?_
  refine lf_iconst d_J_fill_0 (v := Int32.ofInt ((0 : Nat) : Int)) rfl ?_
  refine lf_istore_n d_J_fill_1 rfl (by decide +kernel) (L2 := [(2, _), (0, _), (1, _)]) rfl ?_
  refine lf_aload_n d_J_fill_2 rfl rfl rfl ?_
  refine gi_len d_J_fill_3 hs ?_
  refine lf_istore_n d_J_fill_4 rfl (by decide +kernel) (L2 := [(3, _), (2, _), (0, _), (1, _)]) rfl ?_
  refine j_fill_l hx hs hn (fun I1 he hg => ?_) n 0 I (by omega) (fun _ _ => rfl) (fun j hj => absurd hj (Nat.not_lt_zero j))
  refine gw_ret d_J_fill_20 rfl ?_
  exact ⟨rfl, rfl, he, hg, rfl⟩
theorem j_fillL_l (hx : HX X L9 xs) {i n : Nat} {x : Int64} {f : Nat → Option Nat} (hs : sh i = some (.inl (.long, n, 1, f))) (hn : n ≤ 2147483647) (k22 : ∀ J1 : mJ, (∀ a, ¬ a = i → J1 a = J a) → (∀ j, j < n → J1 i j = x) → LXf TT cl6 X mi_J_fillL (40 + 1) (1000 + 200 * 1) D P PX kc ks 22 [(4, .int (Int32.ofInt ((n : Nat) : Int))), (3, .int (Int32.ofInt ((n : Nat) : Int))), (0, .ref i), (1, .long x)] [] (hp sh I J1)) : ∀ (c k : Nat) (J1 : mJ), k + c = n → (∀ a, ¬ a = i → J1 a = J a) → (∀ j, j < k → J1 i j = x) → LXf TT cl6 X mi_J_fillL (40 + 1) (1000 + 200 * 1) D P PX kc ks 6 [(4, .int (Int32.ofInt ((n : Nat) : Int))), (3, .int (Int32.ofInt ((k : Nat) : Int))), (0, .ref i), (1, .long x)] [] (hp sh I J1) := by
  intro c
  induction c with
  | zero =>
    intro k J1 hk he hg
    obtain rfl : k = n := by omega
    refine lf_iload_n d_J_fillL_6 rfl rfl ?_
    refine lf_iload d_J_fillL_7 rfl ?_
    refine gi_icmp_ge d_J_fillL_9 (tgt := 22) (by decide) (by omega) (fun hb9 => ?_) (fun hb9 => False.elim (by omega))
    exact k22 J1 he hg
  | succ c ih =>
    intro k J1 hk he hg
    refine lf_iload_n d_J_fillL_6 rfl rfl ?_
    refine lf_iload d_J_fillL_7 rfl ?_
    refine gi_icmp_ge d_J_fillL_9 (tgt := 22) (by decide) (by omega) (fun hb9 => False.elim (by omega)) (fun hb9 => ?_)
    refine lf_aload_n d_J_fillL_12 rfl rfl rfl ?_
    refine lf_iload_n d_J_fillL_13 rfl rfl ?_
    refine lf_lload_n d_J_fillL_14 rfl rfl ?_
    refine gi_lastoreN d_J_fillL_15 hs (by omega) ?_
    refine gi_iincN d_J_fillL_16 rfl (by decide +kernel) (L2 := [(3, _), (4, _), (0, _), (1, _)]) rfl ?_
    refine lf_goto d_J_fillL_19 (tgt := 6) (by decide) ?_
    refine lf_sub [1, 0, 2, 3] rfl ?_
    refine ih (k + 1) _ (by omega) (fun a ha => by rw [jpt_o ha]; exact he a ha) (fun j hj => ?_)
    rw [jpt_s]
    by_cases q : j = k
    · rw [if_pos q]
    · rw [if_neg q]; exact hg j (by omega)
theorem j_fillL (hx : HX X L9 xs) {i n : Nat} {x : Int64} {f : Nat → Option Nat} (hs : sh i = some (.inl (.long, n, 1, f))) (hn : n ≤ 2147483647) : EVv TT cl6 X mi_J_fillL 1 [.ref i, .long x] sh I J (fun I1 J1 => (∀ a, ¬ a = i → J1 a = J a) ∧ (∀ j, j < n → J1 i j = x) ∧ I1 = I) := by
  refine gw_enter (hx_ok hx) (by decide +kernel) (Nat.le_of_ble_eq_true rfl) (L := [(0, _), (1, _)]) rfl ?_
  refine lf_iconst d_J_fillL_0 (v := Int32.ofInt ((0 : Nat) : Int)) rfl ?_
  refine lf_istore_n d_J_fillL_1 rfl (by decide +kernel) (L2 := [(3, _), (0, _), (1, _)]) rfl ?_
  refine lf_aload_n d_J_fillL_2 rfl rfl rfl ?_
  refine gi_len d_J_fillL_3 hs ?_
  refine lf_istore d_J_fillL_4 (by decide +kernel) (L2 := [(4, _), (3, _), (0, _), (1, _)]) rfl ?_
  refine j_fillL_l hx hs hn (fun J1 he hg => ?_) n 0 J (by omega) (fun _ _ => rfl) (fun j hj => absurd hj (Nat.not_lt_zero j))
  refine gw_ret d_J_fillL_22 rfl ?_
  exact ⟨rfl, rfl, he, hg, rfl⟩
theorem aw_ne {a k w u v : Nat} (ha : a < k) (hu : u < w) (hv : v < w) : ¬ a * w + u = k * w + v := by
  have h := kw_lt (w := u) (W := w) ha hu
  omega
theorem jKeep_at {J J1 : mJ} {k w a q u : Nat} (h : jKeep J J1 k w) (ha : a < k) (hu : u < w) : J1 q (a * w + u) = J q (a * w + u) := h q _ (fun _ v hv => aw_ne ha hu hv)
theorem v_fillGate_l (hx : HX X L9 xs) (hN : clN sh) {n w : Nat} (hV : clV sh n w) (hn2 : n ≤ 80) (hw2 : w ≤ 2) (hw : I 15 2 = w) {s : Nat} (he : J 15 3 = evr s) {k a b : Nat} {kd : Int} (hk : k < n) (hkd : kd = 97 ∨ kd = 110 ∨ kd = 111 ∨ kd = 114 ∨ kd = 120 ∨ kd = 118 ∨ kd = 98) (ha : a < k) (hb : b < k) (hia : I 5 k = a) (hib : I 6 k = b)  (k211 : ∀ J1 : mJ, jKeep J J1 k w → (∀ u, u < w → J1 26 (k * w + u) = gOne kd (J 26 (a * w + u)) (J 26 (a * w + u) ^^^ -1) (J 26 (b * w + u)) (J 26 (b * w + u) ^^^ -1) &&& evr s ∧ J1 28 (k * w + u) = gOne kd (J 28 (a * w + u)) (J 27 (a * w + u)) (J 28 (b * w + u)) (J 27 (b * w + u)) ∧ J1 27 (k * w + u) = gZero kd (J 28 (a * w + u)) (J 27 (a * w + u)) (J 28 (b * w + u)) (J 27 (b * w + u))) → LXf TT cl6 X mi_V_fillGate (40 + 2) (1000 + 200 * 2) D P PX kc ks 211 [(3, .int (Int32.ofInt ((w : Nat) : Int))), (2, .int (Int32.ofInt (kd))), (0, .ref 15), (1, .int (Int32.ofInt ((k : Nat) : Int)))] [] (hp sh I J1)) : ∀ (c u : Nat) (J1 : mJ), u + c = w → jKeep J J1 k w → (∀ v, v < u → J1 26 (k * w + v) = gOne kd (J 26 (a * w + v)) (J 26 (a * w + v) ^^^ -1) (J 26 (b * w + v)) (J 26 (b * w + v) ^^^ -1) &&& evr s ∧ J1 28 (k * w + v) = gOne kd (J 28 (a * w + v)) (J 27 (a * w + v)) (J 28 (b * w + v)) (J 27 (b * w + v)) ∧ J1 27 (k * w + v) = gZero kd (J 28 (a * w + v)) (J 27 (a * w + v)) (J 28 (b * w + v)) (J 27 (b * w + v))) → LXf TT cl6 X mi_V_fillGate (40 + 2) (1000 + 200 * 2) D P PX kc ks 11 [(3, .int (Int32.ofInt ((u : Nat) : Int))), (2, .int (Int32.ofInt (kd))), (0, .ref 15), (1, .int (Int32.ofInt ((k : Nat) : Int)))] [] (hp sh I J1) := by
  intro c
  induction c with
  | zero =>
    intro u J1 hu hj hg
    obtain rfl : u = w := by omega
    refine lf_iload_n d_V_fillGate_11 rfl rfl ?_
    refine lf_aload_n d_V_fillGate_12 rfl rfl rfl ?_
    refine gi_geti s_V_fillGate_13 (c_15 hV) rfl ?_
    refine gi_top hw ?_
    refine gi_icmp_ge d_V_fillGate_16 (tgt := 211) (by decide) (by omega) (fun hb16 => ?_) (fun hb16 => False.elim (by omega))
    exact k211 J1 hj hg
  | succ c ih =>
    intro u J1 hu hj hg
    have he1 : jpt J1 26 (k * w + u) = jpt J1 26 (k * w + u) := rfl
    have he1 : J1 15 3 = evr s := by rw [hj 15 3 (fun q => by omega)]; exact he
    have g1 : ∀ q, J1 q (a * w + u) = J q (a * w + u) := fun q => jKeep_at hj ha (by omega)
    have g2 : ∀ q, J1 q (b * w + u) = J q (b * w + u) := fun q => jKeep_at hj hb (by omega)
    have n1 : ¬ a * w + u = k * w + u := aw_ne ha (by omega) (by omega)
    have n2 : ¬ b * w + u = k * w + u := aw_ne hb (by omega) (by omega)
    refine lf_iload_n d_V_fillGate_11 rfl rfl ?_
    refine lf_aload_n d_V_fillGate_12 rfl rfl rfl ?_
    refine gi_geti s_V_fillGate_13 (c_15 hV) rfl ?_
    refine gi_top hw ?_
    refine gi_icmp_ge d_V_fillGate_16 (tgt := 211) (by decide) (by omega) (fun hb16 => False.elim (by omega)) (fun hb16 => ?_)
    refine lf_iload_n d_V_fillGate_19 rfl rfl ?_
    refine lf_aload_n d_V_fillGate_20 rfl rfl rfl ?_
    refine gi_geti s_V_fillGate_21 (c_15 hV) rfl ?_
    refine gi_top hw ?_
    refine gi_imulN (a := k) (b := w) d_V_fillGate_24 ?_
    refine lf_iload_n d_V_fillGate_25 rfl rfl ?_
    refine gi_iaddN (a := (k * w)) (b := u) d_V_fillGate_26 ?_
    refine lf_istore d_V_fillGate_27 (by decide +kernel) (L2 := [(4, _), (3, _), (2, _), (0, _), (1, _)]) rfl ?_
    refine lf_aload_n d_V_fillGate_29 rfl rfl rfl ?_
    refine gi_getr s_V_fillGate_30 (c_15 hV) rfl ?_
    refine lf_iload_n d_V_fillGate_33 rfl rfl ?_
    refine gw_callP s_V_fillGate_34 (n_oneOfPins hx hN (by omega)) (S := []) rfl rfl (gcR_2 (c_1 hN)) (by decide) (by decide +kernel) (Nat.le_of_ble_eq_true rfl) ?_
    refine gi_top hia ?_
    refine lf_aload_n d_V_fillGate_37 rfl rfl rfl ?_
    refine gi_geti s_V_fillGate_38 (c_15 hV) rfl ?_
    refine gi_top hw ?_
    refine gi_imulN (a := a) (b := w) d_V_fillGate_41 ?_
    refine lf_iload_n d_V_fillGate_42 rfl rfl ?_
    refine gi_iaddN (a := (a * w)) (b := u) d_V_fillGate_43 ?_
    refine lf_istore d_V_fillGate_44 (by decide +kernel) (L2 := [(5, _), (4, _), (3, _), (2, _), (0, _), (1, _)]) rfl ?_
    refine lf_aload_n d_V_fillGate_46 rfl rfl rfl ?_
    refine gi_getr s_V_fillGate_47 (c_15 hV) rfl ?_
    refine lf_iload_n d_V_fillGate_50 rfl rfl ?_
    refine gw_callP s_V_fillGate_51 (n_twoOfPins hx hN (by omega)) (S := []) rfl rfl (gcR_2 (c_1 hN)) (by decide) (by decide +kernel) (Nat.le_of_ble_eq_true rfl) ?_
    refine gi_top hib ?_
    refine lf_aload_n d_V_fillGate_54 rfl rfl rfl ?_
    refine gi_geti s_V_fillGate_55 (c_15 hV) rfl ?_
    refine gi_top hw ?_
    refine gi_imulN (a := b) (b := w) d_V_fillGate_58 ?_
    refine lf_iload_n d_V_fillGate_59 rfl rfl ?_
    refine gi_iaddN (a := (b * w)) (b := u) d_V_fillGate_60 ?_
    refine lf_istore d_V_fillGate_61 (by decide +kernel) (L2 := [(6, _), (5, _), (4, _), (3, _), (2, _), (0, _), (1, _)]) rfl ?_
    refine lf_aload_n d_V_fillGate_63 rfl rfl rfl ?_
    refine gi_getr s_V_fillGate_64 (c_15 hV) rfl ?_
    refine lf_iload d_V_fillGate_67 rfl ?_
    refine gw_callP s_V_fillGate_69 (m_wordAtN hx (c_26 hV) ⟨kw_lt (by omega) (by omega), nw_le hn2 (by omega)⟩) (S := []) rfl rfl gcR_4 (by decide) (by decide +kernel) (Nat.le_of_ble_eq_true rfl) ?_
    refine lf_lstore d_V_fillGate_72 (by decide +kernel) (L2 := [(7, _), (6, _), (5, _), (4, _), (3, _), (2, _), (0, _), (1, _)]) rfl ?_
    refine lf_aload_n d_V_fillGate_74 rfl rfl rfl ?_
    refine gi_getr s_V_fillGate_75 (c_15 hV) rfl ?_
    refine lf_iload d_V_fillGate_78 rfl ?_
    refine gw_callP s_V_fillGate_80 (m_wordAtN hx (c_26 hV) ⟨kw_lt (by omega) (by omega), nw_le hn2 (by omega)⟩) (S := []) rfl rfl gcR_4 (by decide) (by decide +kernel) (Nat.le_of_ble_eq_true rfl) ?_
    refine lf_lstore d_V_fillGate_83 (by decide +kernel) (L2 := [(9, _), (7, _), (6, _), (5, _), (4, _), (3, _), (2, _), (0, _), (1, _)]) rfl ?_
    refine lf_aload_n d_V_fillGate_85 rfl rfl rfl ?_
    refine gi_getr s_V_fillGate_86 (c_15 hV) rfl ?_
    refine lf_iload d_V_fillGate_89 rfl ?_
    refine lf_iload_n d_V_fillGate_91 rfl rfl ?_
    refine lf_lload d_V_fillGate_92 rfl ?_
    refine lf_lload d_V_fillGate_94 rfl ?_
    refine gi_pushl s_V_fillGate_96 ?_
    refine lf_lxor d_V_fillGate_99 ?_
    refine lf_lload d_V_fillGate_100 rfl ?_
    refine lf_lload d_V_fillGate_102 rfl ?_
    refine gi_pushl s_V_fillGate_104 ?_
    refine lf_lxor d_V_fillGate_107 ?_
    refine gw_callP s_V_fillGate_108 (m_oneOf hx hkd) (S := [_, _]) rfl rfl gcR_4 (by decide) (by decide +kernel) (Nat.le_of_ble_eq_true rfl) ?_
    refine lf_aload_n d_V_fillGate_111 rfl rfl rfl ?_
    refine gi_getl s_V_fillGate_112 (c_15 hV) rfl ?_
    refine gi_topL he1 ?_
    refine lf_land d_V_fillGate_115 ?_
    refine gw_callV s_V_fillGate_116 (m_putWordN hx (c_26 hV) ⟨kw_lt (by omega) (by omega), nw_le hn2 (by omega)⟩) (S := []) rfl rfl gcR_4 (by decide) (by decide +kernel) (Nat.le_of_ble_eq_true rfl) (fun I J w116 => ?_)
    obtain ⟨rfl, rfl⟩ := w116
    refine lf_aload_n d_V_fillGate_119 rfl rfl rfl ?_
    refine gi_getr s_V_fillGate_120 (c_15 hV) rfl ?_
    refine lf_iload d_V_fillGate_123 rfl ?_
    refine gw_callP s_V_fillGate_125 (m_wordAtN hx (c_28 hV) ⟨kw_lt (by omega) (by omega), nw_le hn2 (by omega)⟩) (S := []) rfl rfl gcR_4 (by decide) (by decide +kernel) (Nat.le_of_ble_eq_true rfl) ?_
    refine lf_lstore d_V_fillGate_128 (by decide +kernel) (L2 := [(11, _), (9, _), (7, _), (6, _), (5, _), (4, _), (3, _), (2, _), (0, _), (1, _)]) rfl ?_
    refine lf_aload_n d_V_fillGate_130 rfl rfl rfl ?_
    refine gi_getr s_V_fillGate_131 (c_15 hV) rfl ?_
    refine lf_iload d_V_fillGate_134 rfl ?_
    refine gw_callP s_V_fillGate_136 (m_wordAtN hx (c_27 hV) ⟨kw_lt (by omega) (by omega), nw_le hn2 (by omega)⟩) (S := []) rfl rfl gcR_4 (by decide) (by decide +kernel) (Nat.le_of_ble_eq_true rfl) ?_
    refine lf_lstore d_V_fillGate_139 (by decide +kernel) (L2 := [(13, _), (11, _), (9, _), (7, _), (6, _), (5, _), (4, _), (3, _), (2, _), (0, _), (1, _)]) rfl ?_
    refine lf_aload_n d_V_fillGate_141 rfl rfl rfl ?_
    refine gi_getr s_V_fillGate_142 (c_15 hV) rfl ?_
    refine lf_iload d_V_fillGate_145 rfl ?_
    refine gw_callP s_V_fillGate_147 (m_wordAtN hx (c_28 hV) ⟨kw_lt (by omega) (by omega), nw_le hn2 (by omega)⟩) (S := []) rfl rfl gcR_4 (by decide) (by decide +kernel) (Nat.le_of_ble_eq_true rfl) ?_
    refine lf_lstore d_V_fillGate_150 (by decide +kernel) (L2 := [(15, _), (13, _), (11, _), (9, _), (7, _), (6, _), (5, _), (4, _), (3, _), (2, _), (0, _), (1, _)]) rfl ?_
    refine lf_aload_n d_V_fillGate_152 rfl rfl rfl ?_
    refine gi_getr s_V_fillGate_153 (c_15 hV) rfl ?_
    refine lf_iload d_V_fillGate_156 rfl ?_
    refine gw_callP s_V_fillGate_158 (m_wordAtN hx (c_27 hV) ⟨kw_lt (by omega) (by omega), nw_le hn2 (by omega)⟩) (S := []) rfl rfl gcR_4 (by decide) (by decide +kernel) (Nat.le_of_ble_eq_true rfl) ?_
    refine lf_lstore d_V_fillGate_161 (by decide +kernel) (L2 := [(17, _), (15, _), (13, _), (11, _), (9, _), (7, _), (6, _), (5, _), (4, _), (3, _), (2, _), (0, _), (1, _)]) rfl ?_
    refine lf_aload_n d_V_fillGate_163 rfl rfl rfl ?_
    refine gi_getr s_V_fillGate_164 (c_15 hV) rfl ?_
    refine lf_iload d_V_fillGate_167 rfl ?_
    refine lf_iload_n d_V_fillGate_169 rfl rfl ?_
    refine lf_lload d_V_fillGate_170 rfl ?_
    refine lf_lload d_V_fillGate_172 rfl ?_
    refine lf_lload d_V_fillGate_174 rfl ?_
    refine lf_lload d_V_fillGate_176 rfl ?_
    refine gw_callP s_V_fillGate_178 (m_oneOf hx hkd) (S := [_, _]) rfl rfl gcR_4 (by decide) (by decide +kernel) (Nat.le_of_ble_eq_true rfl) ?_
    refine gw_callV s_V_fillGate_181 (m_putWordN hx (c_28 hV) ⟨kw_lt (by omega) (by omega), nw_le hn2 (by omega)⟩) (S := []) rfl rfl gcR_4 (by decide) (by decide +kernel) (Nat.le_of_ble_eq_true rfl) (fun I J w181 => ?_)
    obtain ⟨rfl, rfl⟩ := w181
    refine lf_aload_n d_V_fillGate_184 rfl rfl rfl ?_
    refine gi_getr s_V_fillGate_185 (c_15 hV) rfl ?_
    refine lf_iload d_V_fillGate_188 rfl ?_
    refine lf_iload_n d_V_fillGate_190 rfl rfl ?_
    refine lf_lload d_V_fillGate_191 rfl ?_
    refine lf_lload d_V_fillGate_193 rfl ?_
    refine lf_lload d_V_fillGate_195 rfl ?_
    refine lf_lload d_V_fillGate_197 rfl ?_
    refine gw_callP s_V_fillGate_199 (m_zeroOf hx hkd) (S := [_, _]) rfl rfl gcR_4 (by decide) (by decide +kernel) (Nat.le_of_ble_eq_true rfl) ?_
    refine gw_callV s_V_fillGate_202 (m_putWordN hx (c_27 hV) ⟨kw_lt (by omega) (by omega), nw_le hn2 (by omega)⟩) (S := []) rfl rfl gcR_4 (by decide) (by decide +kernel) (Nat.le_of_ble_eq_true rfl) (fun I J w202 => ?_)
    obtain ⟨rfl, rfl⟩ := w202
    refine gi_iincN d_V_fillGate_205 rfl (by decide +kernel) (L2 := [(3, _), (17, _), (15, _), (13, _), (11, _), (9, _), (7, _), (6, _), (5, _), (4, _), (2, _), (0, _), (1, _)]) rfl ?_
    refine lf_goto d_V_fillGate_208 (tgt := 11) (by decide) ?_
    refine lf_sub [0, 10, 11, 12] rfl ?_
    refine ih (u + 1) _ (by omega) (jKeep_put (jKeep_put (jKeep_put hj (Or.inl rfl) (by omega)) (Or.inr (Or.inr rfl)) (by omega)) (Or.inr (Or.inl rfl)) (by omega)) (fun v hv => ?_)
    rcases Nat.lt_or_ge v u with q | q
    · have g := hg v q
      refine ⟨?_, ?_, ?_⟩
      · rw [jpt_at (by omega), jpt_at (by omega), jpt_at (by omega)]; exact g.1
      · rw [jpt_at (by omega), jpt_at (by omega), jpt_at (by omega)]; exact g.2.1
      · rw [jpt_at (by omega), jpt_at (by omega), jpt_at (by omega)]; exact g.2.2
    · obtain rfl : v = u := by omega
      refine ⟨?_, ?_, ?_⟩
      · rw [jpt_at (by omega), jpt_at (by omega), jpt_e, g1, g2]; rfl
      · rw [jpt_at (by omega), jpt_e, jpt_at (by omega), jpt_at (by omega), jpt_at (by omega), jpt_at (by omega), g1, g1, g2, g2]
      · rw [jpt_e]
        rw [jpt_at (by omega), jpt_at (by omega), jpt_at (by omega), jpt_at (by omega), g1, g1, g2, g2]
theorem v_fillGate (hx : HX X L9 xs) (hN : clN sh) {n w : Nat} (hV : clV sh n w) (hn2 : n ≤ 80) (hw2 : w ≤ 2) (hw : I 15 2 = w) {s : Nat} (he : J 15 3 = evr s) {k a b : Nat}  (hk : k < n) (hkd : I 3 k = 97 ∨ I 3 k = 110 ∨ I 3 k = 111 ∨ I 3 k = 114 ∨ I 3 k = 120 ∨ I 3 k = 118 ∨ I 3 k = 98) (ha : a < k) (hb : b < k) (hia : I 5 k = a) (hib : I 6 k = b) (hR : NR I) : EVv TT cl6 X mi_V_fillGate 2 [.ref 15, .int (Int32.ofInt ((k : Nat) : Int))] sh I J (fun I1 J1 => I1 = I ∧ jKeep J J1 k w ∧ ∀ u, u < w → J1 26 (k * w + u) = gOne (I 3 k) (J 26 (a * w + u)) (J 26 (a * w + u) ^^^ -1) (J 26 (b * w + u)) (J 26 (b * w + u) ^^^ -1) &&& evr s ∧ J1 28 (k * w + u) = gOne (I 3 k) (J 28 (a * w + u)) (J 27 (a * w + u)) (J 28 (b * w + u)) (J 27 (b * w + u)) ∧ J1 27 (k * w + u) = gZero (I 3 k) (J 28 (a * w + u)) (J 27 (a * w + u)) (J 28 (b * w + u)) (J 27 (b * w + u))) := by
  refine gw_enter (hx_ok hx) (by decide +kernel) (Nat.le_of_ble_eq_true rfl) (L := [(0, _), (1, _)]) rfl ?_
  refine lf_aload_n d_V_fillGate_0 rfl rfl rfl ?_
  refine gi_getr s_V_fillGate_1 (c_15 hV) rfl ?_
  refine lf_iload_n d_V_fillGate_4 rfl rfl ?_
  refine gw_callP s_V_fillGate_5 (n_kindOf hx hN hR (by omega)) (S := []) rfl rfl (gcR_2 (c_1 hN)) (by decide) (by decide +kernel) (Nat.le_of_ble_eq_true rfl) ?_
  refine lf_istore_n d_V_fillGate_8 rfl (by decide +kernel) (L2 := [(2, _), (0, _), (1, _)]) rfl ?_
  refine lf_iconst d_V_fillGate_9 (v := Int32.ofInt ((0 : Nat) : Int)) rfl ?_
  refine lf_istore_n d_V_fillGate_10 rfl (by decide +kernel) (L2 := [(3, _), (2, _), (0, _), (1, _)]) rfl ?_
  refine v_fillGate_l hx hN hV hn2 hw2 hw he hk hkd ha hb hia hib (fun J1 hj hg => ?_) w 0 J (by omega) (fun _ _ _ => rfl) (fun v hv => absurd hv (Nat.not_lt_zero v))
  refine gw_ret d_V_fillGate_211 rfl ?_
  exact ⟨rfl, rfl, rfl, hj, hg⟩
end VT2
