section LA10
variable {X : XT} {L9 : Nat} {xs : Nat → Int32} {sh : sM} {I : mI} {J : mJ}

variable {D : mF} {P : Option Value → mF → Prop} {PX : String → mF → Prop} {kc ks : Nat}

/-- the law answers true -/
def PL : Option Value → sM → mI → mJ → Prop := fun v _ _ _ => v = some (.int (Int32.ofInt ((1 : Nat) : Int)))
theorem law_n_r (hx : HX X L9 xs) {N ni c s no w : Nat} {kd : Nat → Int} {ow r2 r3 dt : Nat → Nat} {ot : Nat → Nat → Nat} {bar len : Int} (hfin : FINq sh I J N ni c s no w kd ow r2 r3 dt ot bar len) {m9 ch9 : Nat} (hm9 : m9 < 6) (hch9 : ch9 < 2 ^ ni) : LXf TT cl6 X mi_W_law (40 + 11) (1000 + 200 * 11) D (pst PL) PX (kc + 3) (ks + 18) 1936 [(33, .int (Int32.ofInt ((out J w s ot no 1 (chc ni (itS J w s ni r2 dt ch9 m9) ch9) : Nat) : Int))), (31, .int (Int32.ofInt ((ch9 : Nat) : Int))), (30, .int (Int32.ofInt ((m9 : Nat) : Int))), (26, .int (Int32.ofInt (len))), (19, .int (Int32.ofInt ((fst r2 s ni : Nat) : Int))), (18, .ref 132), (17, .ref 131), (16, .int (Int32.ofInt ((2 ^ (s - ni) : Nat) : Int))), (15, .ref 130), (12, .ref 129), (9, .int (Int32.ofInt ((2 ^ s : Nat) : Int))), (1, .ref 0), (0, .retAddr 1), (2, .int (Int32.ofInt ((1 : Nat) : Int))), (3, .int (Int32.ofInt ((ni : Nat) : Int))), (4, .int (Int32.ofInt ((c : Nat) : Int))), (5, .ref 100), (6, .int (Int32.ofInt ((s : Nat) : Int))), (7, .ref 124), (8, .ref 125)] [] (hp sh I J) := by
  have hst := hfin.1
  have hL := hst.1
  obtain ⟨hrk, hrw, hSH, hC, hk3, h124, h125, h126, hd5, ho5, hcs, hsw⟩ := id hL
  obtain ⟨ki, kc9, kg, hni1, hnis, hsN, hN23, hs7⟩ := id hrk
  obtain ⟨⟨f, hs0, hf⟩, hr, hR⟩ := id hrw
  have hM := hSH.1
  have hp7 := pow2_7 hs7
  have hp0 := Nat.two_pow_pos s
  obtain ⟨⟨fv, hv1, hv2⟩, hv3, hv4⟩ := hst.2.1
  have hth := hst.2.2.1
  have hkb := hth.2.2.2.2.2.1
  obtain ⟨hsd, hda, hda2⟩ := hfin.2.2.1
  obtain ⟨h130, h131, h132⟩ := hfin.2.2.2.1
  have hkv := hfin.2.2.2.2.1
  have hnv := hfin.2.2.2.2.2
  have hni8 : 2 ^ ni ≤ 8 := Nat.pow_le_pow_right (n := 2) (by decide) hcs.2.1
  have hp9 := pow2_7 (s := s - ni) (by omega)
  have hp90 := Nat.two_pow_pos (s - ni)
  have hps := pow_sp hnis
  have hch2 : ch9 < 2 ^ s := Nat.lt_of_lt_of_le hch9 (Nat.pow_le_pow_right (n := 2) (by decide) hnis)
  have hno4 : 2 ^ no ≤ 2 ^ 2 := Nat.pow_le_pow_right (by decide) (by omega)
  have hr15 : -2147483648 ≤ I 15 9 ∧ I 15 9 < 2147483648 := by
    have := hst.2.2.2.2.2
    omega
  have hob : (out J w s ot no 1 (chc ni (itS J w s ni r2 dt ch9 m9) ch9)) < 4 := Nat.lt_of_lt_of_le (orS_lt (fun _ => bn_lt _) _) hno4
  obtain ⟨ov, hov⟩ : ∃ z : Nat, z = (out J w s ot no 1 (chc ni (itS J w s ni r2 dt ch9 m9) ch9)) := ⟨_, rfl⟩
  rw [← hov] at hob ⊢
  have vk : I 130 ch9 = ((bn (kpt N s kd r2 r3 bar ch9) : Nat) : Int) := hkv ch9 hch2
  have hkl := hst.2.2.2.1 ch9 hch9
  refine lf_room (kc1 := kc + 1 + 1 + 1) (ks1 := ks + 6 + 6 + 6) (by omega) (by omega) ?_
  cases ek : kpt N s kd r2 r3 bar ch9 with
  | true =>
    have ek0 : bn (kpt N s kd r2 r3 bar ch9) = 1 := by rw [ek]; rfl
    have hkt : lb (J 15 11) ch9 = true := hkl.trans ek
    refine lf_iload_n d_W_law_1936 rfl rfl ?_
    refine gi_if_eq d_W_law_1937 (tgt := 2003) (by decide) (by omega) (fun hb1937 => False.elim (by omega)) (fun hb1937 => ?_)
    refine lf_aload_n d_W_law_1940 rfl rfl rfl ?_
    refine lf_iconst d_W_law_1941 (v := Int32.ofInt ((1 : Nat) : Int)) rfl ?_
    refine lf_iload d_W_law_1942 rfl ?_
    refine lf_iload d_W_law_1944 rfl ?_
    refine gw_callI s_W_law_1946 (wI_run hx hM (EVp_i (m_run hx hSH hC (fun ch hc => by omega) (t := 1) (by decide) (by omega) hch9 hkt)) (lev := 10) (by decide)) (S := []) rfl rfl gcR_1 (by decide) (by decide +kernel) (Nat.le_of_ble_eq_true rfl) (fun r1946 I1946 J1946 w1946 => ?_)
    obtain ⟨hr, hi9, hj9⟩ := w1946
    rw [hr, hi9, hj9, ← hov]
    clear hr hi9 hj9
    refine lf_aload d_W_law_1949 rfl rfl ?_
    refine lf_iload d_W_law_1951 rfl ?_
    refine gi_zaloadN d_W_law_1953 h130 (by omega) ?_
    refine gi_top vk ?_
    refine gi_if_eq d_W_law_1954 (tgt := 1962) (by decide) (by omega) (fun hb1954 => False.elim (by omega)) (fun hb1954 => ?_)
    refine lf_iload d_W_law_1957 rfl ?_
    refine lf_goto d_W_law_1959 (tgt := 1964) (by decide) ?_
    refine gi_icmp_ne d_W_law_1964 (tgt := 2003) (by decide) (by omega) (fun hb1964 => False.elim (by omega)) (fun hb1964 => ?_)
    refine lf_aload_n d_W_law_1967 rfl rfl rfl ?_
    refine lf_iconst d_W_law_1968 (v := Int32.ofInt ((1 : Nat) : Int)) rfl ?_
    refine lf_bipush d_W_law_1969 (v := Int32.ofInt ((31 : Nat) : Int)) (by decide +kernel) ?_
    refine lf_iload d_W_law_1971 rfl ?_
    refine gw_callX s_W_law_1973 (w_run_0 hx hM (EVt_x (m_run_t2 hx (t := 1) (m := 31) (by decide) (by decide) (by decide))) (lev := 10) (by decide)) (S := []) rfl rfl gcR_1 (by decide) (by decide +kernel) (Nat.le_of_ble_eq_true rfl) (fun I1973 J1973 w1973 => ?_)
    obtain ⟨hi9, hj9⟩ := w1973
    rw [hi9, hj9]
    clear hi9 hj9
    refine gi_pushi s_W_law_1976 ?_
    refine gi_icmp_ne d_W_law_1978 (tgt := 2003) (by decide) (by omega) (fun hb1978 => False.elim (by omega)) (fun hb1978 => ?_)
    refine lf_aload_n d_W_law_1981 rfl rfl rfl ?_
    refine lf_bipush d_W_law_1982 (v := Int32.ofInt ((21 : Nat) : Int)) (by decide +kernel) ?_
    refine gw_callX s_W_law_1984 (w_isInductive_0 hx hM (EVt_x (m_isInductive_t hx (k := 21) (by decide) (by decide))) (lev := 10) (by decide)) (S := []) rfl rfl gcR_1 (by decide) (by decide +kernel) (Nat.le_of_ble_eq_true rfl) (fun I1984 J1984 w1984 => ?_)
    obtain ⟨hi9, hj9⟩ := w1984
    rw [hi9, hj9]
    clear hi9 hj9
    refine gi_pushi s_W_law_1987 ?_
    refine gi_icmp_ne d_W_law_1989 (tgt := 2003) (by decide) (by omega) (fun hb1989 => False.elim (by omega)) (fun hb1989 => ?_)
    refine lf_aload_n d_W_law_1992 rfl rfl rfl ?_
    refine gw_callI s_W_law_1993 (m_isSound hx hSH hC hfin.2.1 hsd hr15 hth.2.2.2.2.2.2.2) (S := []) rfl rfl (gcR_2 (c_0 hM)) (by decide) (by decide +kernel) (Nat.le_of_ble_eq_true rfl) (fun r1993 I1993 J1993 w1993 => ?_)
    have hr9 : r1993 = ((1 : Nat) : Int) := w1993
    rw [hr9]
    refine gi_if_eq d_W_law_1996 (tgt := 2003) (by decide) (by omega) (fun hb1996 => False.elim (by omega)) (fun hb1996 => ?_)
    refine lf_iconst d_W_law_1999 (v := Int32.ofInt ((1 : Nat) : Int)) rfl ?_
    refine lf_goto d_W_law_2000 (tgt := 2004) (by decide) ?_
    refine gw_zret d_W_law_2004 rfl (by omega) ?_
    exact rfl
  | false =>
    have ek0 : bn (kpt N s kd r2 r3 bar ch9) = 0 := by rw [ek]; rfl
    have hkt : ¬ lb (J 15 11) ch9 = true := by rw [hkl, ek]; exact Bool.false_ne_true
    refine lf_iload_n d_W_law_1936 rfl rfl ?_
    refine gi_if_eq d_W_law_1937 (tgt := 2003) (by decide) (by omega) (fun hb1937 => False.elim (by omega)) (fun hb1937 => ?_)
    refine lf_aload_n d_W_law_1940 rfl rfl rfl ?_
    refine lf_iconst d_W_law_1941 (v := Int32.ofInt ((1 : Nat) : Int)) rfl ?_
    refine lf_iload d_W_law_1942 rfl ?_
    refine lf_iload d_W_law_1944 rfl ?_
    refine gw_callX s_W_law_1946 (w_run_0 hx hM (EVt_x (m_run_t1 hx hSH hC (fun ch hc => by omega) (t := 1) (by decide) (by omega) hch9 hkt)) (lev := 10) (by decide)) (S := []) rfl rfl gcR_1 (by decide) (by decide +kernel) (Nat.le_of_ble_eq_true rfl) (fun I1946 J1946 w1946 => ?_)
    obtain ⟨hi9, hj9⟩ := w1946
    rw [hi9, hj9]
    clear hi9 hj9
    refine lf_aload d_W_law_1949 rfl rfl ?_
    refine lf_iload d_W_law_1951 rfl ?_
    refine gi_zaloadN d_W_law_1953 h130 (by omega) ?_
    refine gi_top vk ?_
    refine gi_if_eq d_W_law_1954 (tgt := 1962) (by decide) (by omega) (fun hb1954 => ?_) (fun hb1954 => False.elim (by omega))
    refine gi_pushi s_W_law_1962 ?_
    refine gi_icmp_ne d_W_law_1964 (tgt := 2003) (by decide) (by omega) (fun hb1964 => False.elim (by omega)) (fun hb1964 => ?_)
    refine lf_aload_n d_W_law_1967 rfl rfl rfl ?_
    refine lf_iconst d_W_law_1968 (v := Int32.ofInt ((1 : Nat) : Int)) rfl ?_
    refine lf_bipush d_W_law_1969 (v := Int32.ofInt ((31 : Nat) : Int)) (by decide +kernel) ?_
    refine lf_iload d_W_law_1971 rfl ?_
    refine gw_callX s_W_law_1973 (w_run_0 hx hM (EVt_x (m_run_t2 hx (t := 1) (m := 31) (by decide) (by decide) (by decide))) (lev := 10) (by decide)) (S := []) rfl rfl gcR_1 (by decide) (by decide +kernel) (Nat.le_of_ble_eq_true rfl) (fun I1973 J1973 w1973 => ?_)
    obtain ⟨hi9, hj9⟩ := w1973
    rw [hi9, hj9]
    clear hi9 hj9
    refine gi_pushi s_W_law_1976 ?_
    refine gi_icmp_ne d_W_law_1978 (tgt := 2003) (by decide) (by omega) (fun hb1978 => False.elim (by omega)) (fun hb1978 => ?_)
    refine lf_aload_n d_W_law_1981 rfl rfl rfl ?_
    refine lf_bipush d_W_law_1982 (v := Int32.ofInt ((21 : Nat) : Int)) (by decide +kernel) ?_
    refine gw_callX s_W_law_1984 (w_isInductive_0 hx hM (EVt_x (m_isInductive_t hx (k := 21) (by decide) (by decide))) (lev := 10) (by decide)) (S := []) rfl rfl gcR_1 (by decide) (by decide +kernel) (Nat.le_of_ble_eq_true rfl) (fun I1984 J1984 w1984 => ?_)
    obtain ⟨hi9, hj9⟩ := w1984
    rw [hi9, hj9]
    clear hi9 hj9
    refine gi_pushi s_W_law_1987 ?_
    refine gi_icmp_ne d_W_law_1989 (tgt := 2003) (by decide) (by omega) (fun hb1989 => False.elim (by omega)) (fun hb1989 => ?_)
    refine lf_aload_n d_W_law_1992 rfl rfl rfl ?_
    refine gw_callI s_W_law_1993 (m_isSound hx hSH hC hfin.2.1 hsd hr15 hth.2.2.2.2.2.2.2) (S := []) rfl rfl (gcR_2 (c_0 hM)) (by decide) (by decide +kernel) (Nat.le_of_ble_eq_true rfl) (fun r1993 I1993 J1993 w1993 => ?_)
    have hr9 : r1993 = ((1 : Nat) : Int) := w1993
    rw [hr9]
    refine gi_if_eq d_W_law_1996 (tgt := 2003) (by decide) (by omega) (fun hb1996 => False.elim (by omega)) (fun hb1996 => ?_)
    refine lf_iconst d_W_law_1999 (v := Int32.ofInt ((1 : Nat) : Int)) rfl ?_
    refine lf_goto d_W_law_2000 (tgt := 2004) (by decide) ?_
    refine gw_zret d_W_law_2004 rfl (by omega) ?_
    exact rfl
theorem law_n_o (hx : HX X L9 xs) {N ni c s no w : Nat} {kd : Nat → Int} {ow r2 r3 dt : Nat → Nat} {ot : Nat → Nat → Nat} {bar len : Int} (hfin : FINq sh I J N ni c s no w kd ow r2 r3 dt ot bar len) {m9 ch9 : Nat} (hm9 : m9 < 6) (hch9 : ch9 < 2 ^ ni) {xm : Nat} (hxm : xm < 2 ^ (s - ni)) (k1936 : LXf TT cl6 X mi_W_law (40 + 11) (1000 + 200 * 11) D (pst PL) PX kc ks 1936 [(33, .int (Int32.ofInt ((orS (fun j => bn (vlw N s kd r2 r3 (chc ni xm ch9) (ot 1 j))) no : Nat) : Int))), (31, .int (Int32.ofInt ((ch9 : Nat) : Int))), (30, .int (Int32.ofInt ((m9 : Nat) : Int))), (26, .int (Int32.ofInt (len))), (19, .int (Int32.ofInt ((fst r2 s ni : Nat) : Int))), (18, .ref 132), (17, .ref 131), (16, .int (Int32.ofInt ((2 ^ (s - ni) : Nat) : Int))), (15, .ref 130), (12, .ref 129), (9, .int (Int32.ofInt ((2 ^ s : Nat) : Int))), (1, .ref 0), (0, .retAddr 1), (2, .int (Int32.ofInt ((1 : Nat) : Int))), (3, .int (Int32.ofInt ((ni : Nat) : Int))), (4, .int (Int32.ofInt ((c : Nat) : Int))), (5, .ref 100), (6, .int (Int32.ofInt ((s : Nat) : Int))), (7, .ref 124), (8, .ref 125)] [] (hp sh I J)) : ∀ (d j : Nat), j + d = no → LXf TT cl6 X mi_W_law (40 + 11) (1000 + 200 * 11) D (pst PL) PX kc ks 1894 [(34, .int (Int32.ofInt ((j : Nat) : Int))), (33, .int (Int32.ofInt ((orS (fun j => bn (vlw N s kd r2 r3 (chc ni xm ch9) (ot 1 j))) j : Nat) : Int))), (32, .int (Int32.ofInt ((xm : Nat) : Int))), (31, .int (Int32.ofInt ((ch9 : Nat) : Int))), (30, .int (Int32.ofInt ((m9 : Nat) : Int))), (26, .int (Int32.ofInt (len))), (19, .int (Int32.ofInt ((fst r2 s ni : Nat) : Int))), (18, .ref 132), (17, .ref 131), (16, .int (Int32.ofInt ((2 ^ (s - ni) : Nat) : Int))), (15, .ref 130), (12, .ref 129), (9, .int (Int32.ofInt ((2 ^ s : Nat) : Int))), (1, .ref 0), (0, .retAddr 1), (2, .int (Int32.ofInt ((1 : Nat) : Int))), (3, .int (Int32.ofInt ((ni : Nat) : Int))), (4, .int (Int32.ofInt ((c : Nat) : Int))), (5, .ref 100), (6, .int (Int32.ofInt ((s : Nat) : Int))), (7, .ref 124), (8, .ref 125)] [] (hp sh I J) := by
  have hst := hfin.1
  have hL := hst.1
  obtain ⟨hrk, hrw, hSH, hC, hk3, h124, h125, h126, hd5, ho5, hcs, hsw⟩ := id hL
  obtain ⟨ki, kc9, kg, hni1, hnis, hsN, hN23, hs7⟩ := id hrk
  obtain ⟨⟨f, hs0, hf⟩, hr, hR⟩ := id hrw
  have hM := hSH.1
  have hp7 := pow2_7 hs7
  have hp0 := Nat.two_pow_pos s
  obtain ⟨⟨fv, hv1, hv2⟩, hv3, hv4⟩ := hst.2.1
  have hth := hst.2.2.1
  have hkb := hth.2.2.2.2.2.1
  obtain ⟨hsd, hda, hda2⟩ := hfin.2.2.1
  obtain ⟨h130, h131, h132⟩ := hfin.2.2.2.1
  have hkv := hfin.2.2.2.2.1
  have hnv := hfin.2.2.2.2.2
  have hni8 : 2 ^ ni ≤ 8 := Nat.pow_le_pow_right (n := 2) (by decide) hcs.2.1
  have hp9 := pow2_7 (s := s - ni) (by omega)
  have hp90 := Nat.two_pow_pos (s - ni)
  have hps := pow_sp hnis
  have hch2 : ch9 < 2 ^ s := Nat.lt_of_lt_of_le hch9 (Nat.pow_le_pow_right (n := 2) (by decide) hnis)
  obtain ⟨f5, h125, hf5⟩ := id h125
  have hcl := chc_lt hnis hxm hch9
  obtain ⟨cho, hcho⟩ : ∃ z : Nat, z = chc ni xm ch9 := ⟨_, rfl⟩
  rw [← hcho] at hcl
  intro d
  induction d with
  | zero =>
    intro j hd
    have hj9 : j = no := by omega
    refine lf_iload d_W_law_1894 rfl ?_
    refine lf_aload d_W_law_1896 rfl rfl ?_
    refine lf_iconst d_W_law_1898 (v := Int32.ofInt ((1 : Nat) : Int)) rfl ?_
    refine gi_aald (kd := 0) d_W_law_1899 rfl h125 (by omega) (hf5 1 (by omega)) ?_
    refine gi_len d_W_law_1900 (h126 1 (by omega)) ?_
    refine gi_icmp_ge d_W_law_1901 (tgt := 1936) (by decide) (by omega) (fun hb1901 => ?_) (fun hb1901 => False.elim (by omega))
    refine lf_sub [1, 3, 4, 5, 6, 7, 8, 9, 10, 11, 12, 13, 14, 15, 16, 17, 18, 19, 20, 21] rfl ?_
    rw [hj9]
    exact k1936
  | succ d ih =>
    intro j hd
    have hj : j < no := by omega
    have hot := ho5 1 j (by decide) hj
    have vt : I (126 + 1) j = ((ot 1 j : Nat) : Int) := hot.1
    have hol := hot.2
    have vv : I (200 + cho) (ot 1 j) = ((bn (vlw N s kd r2 r3 cho (ot 1 j)) : Nat) : Int) := hv4 cho _ hcl hol
    have fin9 := ih (j + 1) (by omega)
    refine lf_iload d_W_law_1894 rfl ?_
    refine lf_aload d_W_law_1896 rfl rfl ?_
    refine lf_iconst d_W_law_1898 (v := Int32.ofInt ((1 : Nat) : Int)) rfl ?_
    refine gi_aald (kd := 0) d_W_law_1899 rfl h125 (by omega) (hf5 1 (by omega)) ?_
    refine gi_len d_W_law_1900 (h126 1 (by omega)) ?_
    refine gi_icmp_ge d_W_law_1901 (tgt := 1936) (by decide) (by omega) (fun hb1901 => False.elim (by omega)) (fun hb1901 => ?_)
    refine lf_iload d_W_law_1904 rfl ?_
    refine lf_aload d_W_law_1906 rfl rfl ?_
    refine lf_iload d_W_law_1908 rfl ?_
    refine lf_iload_n d_W_law_1910 rfl rfl ?_
    refine gi_ishlN (a := xm) (s := ni) d_W_law_1911 (by omega) ?_
    refine lf_iload d_W_law_1912 rfl ?_
    refine gi_iorN (a := (xm * 2 ^ ni)) (b := ch9) d_W_law_1914 ?_
    refine gi_top (show ((xm * 2 ^ ni ||| ch9 : Nat) : Int) = ((cho : Nat) : Int) from by rw [hcho]; rfl) ?_
    refine gi_aald (kd := 0) d_W_law_1915 rfl hv1 (by omega) (hv2 cho (by omega)) ?_
    refine lf_aload d_W_law_1916 rfl rfl ?_
    refine lf_iconst d_W_law_1918 (v := Int32.ofInt ((1 : Nat) : Int)) rfl ?_
    refine gi_aald (kd := 0) d_W_law_1919 rfl h125 (by omega) (hf5 1 (by omega)) ?_
    refine lf_iload d_W_law_1920 rfl ?_
    refine gi_ialoadN d_W_law_1922 (h126 1 (by omega)) (by omega) ?_
    refine gi_top vt ?_
    refine gi_ialoadN d_W_law_1923 (hv3 cho (by omega)) (by omega) ?_
    refine gi_top vv ?_
    refine lf_iload d_W_law_1924 rfl ?_
    refine gi_ishlN (a := (bn (vlw N s kd r2 r3 cho (ot 1 j)))) (s := j) d_W_law_1926 (by omega) ?_
    refine gi_iorN (a := (orS (fun j => bn (vlw N s kd r2 r3 (chc ni xm ch9) (ot 1 j))) j)) (b := ((bn (vlw N s kd r2 r3 cho (ot 1 j))) * 2 ^ j)) d_W_law_1927 ?_
    refine gi_top (show ((orS (fun j => bn (vlw N s kd r2 r3 (chc ni xm ch9) (ot 1 j))) j ||| bn (vlw N s kd r2 r3 cho (ot 1 j)) * 2 ^ j : Nat) : Int) = ((orS (fun j => bn (vlw N s kd r2 r3 (chc ni xm ch9) (ot 1 j))) (j + 1) : Nat) : Int) from by rw [hcho]; rfl) ?_
    refine lf_istore d_W_law_1928 (by decide +kernel) (L2 := [(33, _), (34, _), (32, _), (31, _), (30, _), (26, _), (19, _), (18, _), (17, _), (16, _), (15, _), (12, _), (9, _), (1, _), (0, _), (2, _), (3, _), (4, _), (5, _), (6, _), (7, _), (8, _)]) rfl ?_
    refine gi_iincN d_W_law_1930 rfl (by decide +kernel) (L2 := [(34, _), (33, _), (32, _), (31, _), (30, _), (26, _), (19, _), (18, _), (17, _), (16, _), (15, _), (12, _), (9, _), (1, _), (0, _), (2, _), (3, _), (4, _), (5, _), (6, _), (7, _), (8, _)]) rfl ?_
    refine lf_goto d_W_law_1933 (tgt := 1894) (by decide) ?_
    exact fin9
theorem itS_lt {w s ni ch k : Nat} {fi dt : Nat → Nat} (h : fst fi s ni < 2 ^ (s - ni)) : itS J w s ni fi dt ch k < 2 ^ (s - ni) := by
  cases k with
  | zero => exact h
  | succ k => exact nxt_lt
theorem law_n_s (hx : HX X L9 xs) {N ni c s no w : Nat} {kd : Nat → Int} {ow r2 r3 dt : Nat → Nat} {ot : Nat → Nat → Nat} {bar len : Int} (hfin : FINq sh I J N ni c s no w kd ow r2 r3 dt ot bar len) {m9 ch9 : Nat} (hm9 : m9 < 6) (hch9 : ch9 < 2 ^ ni) (k1888 : LXf TT cl6 X mi_W_law (40 + 11) (1000 + 200 * 11) D (pst PL) PX kc ks 1888 [(32, .int (Int32.ofInt ((itS J w s ni r2 dt ch9 m9 : Nat) : Int))), (31, .int (Int32.ofInt ((ch9 : Nat) : Int))), (30, .int (Int32.ofInt ((m9 : Nat) : Int))), (26, .int (Int32.ofInt (len))), (19, .int (Int32.ofInt ((fst r2 s ni : Nat) : Int))), (18, .ref 132), (17, .ref 131), (16, .int (Int32.ofInt ((2 ^ (s - ni) : Nat) : Int))), (15, .ref 130), (12, .ref 129), (9, .int (Int32.ofInt ((2 ^ s : Nat) : Int))), (1, .ref 0), (0, .retAddr 1), (2, .int (Int32.ofInt ((1 : Nat) : Int))), (3, .int (Int32.ofInt ((ni : Nat) : Int))), (4, .int (Int32.ofInt ((c : Nat) : Int))), (5, .ref 100), (6, .int (Int32.ofInt ((s : Nat) : Int))), (7, .ref 124), (8, .ref 125)] [] (hp sh I J)) : ∀ (d k : Nat), k + d = m9 → LXf TT cl6 X mi_W_law (40 + 11) (1000 + 200 * 11) D (pst PL) PX kc ks 1863 [(33, .int (Int32.ofInt ((k : Nat) : Int))), (32, .int (Int32.ofInt ((itS J w s ni r2 dt ch9 k : Nat) : Int))), (31, .int (Int32.ofInt ((ch9 : Nat) : Int))), (30, .int (Int32.ofInt ((m9 : Nat) : Int))), (26, .int (Int32.ofInt (len))), (19, .int (Int32.ofInt ((fst r2 s ni : Nat) : Int))), (18, .ref 132), (17, .ref 131), (16, .int (Int32.ofInt ((2 ^ (s - ni) : Nat) : Int))), (15, .ref 130), (12, .ref 129), (9, .int (Int32.ofInt ((2 ^ s : Nat) : Int))), (1, .ref 0), (0, .retAddr 1), (2, .int (Int32.ofInt ((1 : Nat) : Int))), (3, .int (Int32.ofInt ((ni : Nat) : Int))), (4, .int (Int32.ofInt ((c : Nat) : Int))), (5, .ref 100), (6, .int (Int32.ofInt ((s : Nat) : Int))), (7, .ref 124), (8, .ref 125)] [] (hp sh I J) := by
  have hst := hfin.1
  have hL := hst.1
  obtain ⟨hrk, hrw, hSH, hC, hk3, h124, h125, h126, hd5, ho5, hcs, hsw⟩ := id hL
  obtain ⟨ki, kc9, kg, hni1, hnis, hsN, hN23, hs7⟩ := id hrk
  obtain ⟨⟨f, hs0, hf⟩, hr, hR⟩ := id hrw
  have hM := hSH.1
  have hp7 := pow2_7 hs7
  have hp0 := Nat.two_pow_pos s
  obtain ⟨⟨fv, hv1, hv2⟩, hv3, hv4⟩ := hst.2.1
  have hth := hst.2.2.1
  have hkb := hth.2.2.2.2.2.1
  obtain ⟨hsd, hda, hda2⟩ := hfin.2.2.1
  obtain ⟨h130, h131, h132⟩ := hfin.2.2.2.1
  have hkv := hfin.2.2.2.2.1
  have hnv := hfin.2.2.2.2.2
  have hni8 : 2 ^ ni ≤ 8 := Nat.pow_le_pow_right (n := 2) (by decide) hcs.2.1
  have hp9 := pow2_7 (s := s - ni) (by omega)
  have hp90 := Nat.two_pow_pos (s - ni)
  have hps := pow_sp hnis
  have hch2 : ch9 < 2 ^ s := Nat.lt_of_lt_of_le hch9 (Nat.pow_le_pow_right (n := 2) (by decide) hnis)
  have hfl : fst r2 s ni < 2 ^ (s - ni) := fst_lt (fun j a b => (kc9 j a b).2.2.1)
  intro d
  induction d with
  | zero =>
    intro k hd
    have hk9 : k = m9 := by omega
    refine lf_iload d_W_law_1863 rfl ?_
    refine lf_iload d_W_law_1865 rfl ?_
    refine gi_icmp_ge d_W_law_1867 (tgt := 1888) (by decide) (by omega) (fun hb1867 => ?_) (fun hb1867 => False.elim (by omega))
    refine lf_sub [1, 2, 3, 4, 5, 6, 7, 8, 9, 10, 11, 12, 13, 14, 15, 16, 17, 18, 19, 20] rfl ?_
    rw [hk9]
    exact k1888
  | succ d ih =>
    intro k hd
    have hcl := chc_lt hnis (itS_lt (J := J) (w := w) (dt := dt) (ch := ch9) (k := k) hfl) hch9
    obtain ⟨cho, hcho⟩ : ∃ z : Nat, z = chc ni (itS J w s ni r2 dt ch9 k) ch9 := ⟨_, rfl⟩
    rw [← hcho] at hcl
    have vy : I 131 cho = ((itS J w s ni r2 dt ch9 (k + 1) : Nat) : Int) := by
      rw [(hnv cho hcl).1, hcho]
      rfl
    have fin9 := ih (k + 1) (by omega)
    refine lf_iload d_W_law_1863 rfl ?_
    refine lf_iload d_W_law_1865 rfl ?_
    refine gi_icmp_ge d_W_law_1867 (tgt := 1888) (by decide) (by omega) (fun hb1867 => False.elim (by omega)) (fun hb1867 => ?_)
    refine lf_aload d_W_law_1870 rfl rfl ?_
    refine lf_iload d_W_law_1872 rfl ?_
    refine lf_iload_n d_W_law_1874 rfl rfl ?_
    refine gi_ishlN (a := (itS J w s ni r2 dt ch9 k)) (s := ni) d_W_law_1875 (by omega) ?_
    refine lf_iload d_W_law_1876 rfl ?_
    refine gi_iorN (a := ((itS J w s ni r2 dt ch9 k) * 2 ^ ni)) (b := ch9) d_W_law_1878 ?_
    refine gi_top (show (((itS J w s ni r2 dt ch9 k) * 2 ^ ni ||| ch9 : Nat) : Int) = ((cho : Nat) : Int) from by rw [hcho]; rfl) ?_
    refine gi_ialoadN d_W_law_1879 h131 (by omega) ?_
    refine gi_top vy ?_
    refine lf_istore d_W_law_1880 (by decide +kernel) (L2 := [(32, _), (33, _), (31, _), (30, _), (26, _), (19, _), (18, _), (17, _), (16, _), (15, _), (12, _), (9, _), (1, _), (0, _), (2, _), (3, _), (4, _), (5, _), (6, _), (7, _), (8, _)]) rfl ?_
    refine gi_iincN d_W_law_1882 rfl (by decide +kernel) (L2 := [(33, _), (32, _), (31, _), (30, _), (26, _), (19, _), (18, _), (17, _), (16, _), (15, _), (12, _), (9, _), (1, _), (0, _), (2, _), (3, _), (4, _), (5, _), (6, _), (7, _), (8, _)]) rfl ?_
    refine lf_goto d_W_law_1885 (tgt := 1863) (by decide) ?_
    exact fin9
theorem law_n (hx : HX X L9 xs) {N ni c s no w : Nat} {kd : Nat → Int} {ow r2 r3 dt : Nat → Nat} {ot : Nat → Nat → Nat} {bar len : Int} (hfin : FINq sh I J N ni c s no w kd ow r2 r3 dt ot bar len) : LXf TT cl6 X mi_W_law (40 + 11) (1000 + 200 * 11) D (pst PL) PX (kc + 3) (ks + 18) 1833 [(26, .int (Int32.ofInt (len))), (19, .int (Int32.ofInt ((fst r2 s ni : Nat) : Int))), (18, .ref 132), (17, .ref 131), (16, .int (Int32.ofInt ((2 ^ (s - ni) : Nat) : Int))), (15, .ref 130), (12, .ref 129), (9, .int (Int32.ofInt ((2 ^ s : Nat) : Int))), (1, .ref 0), (0, .retAddr 1), (2, .int (Int32.ofInt ((1 : Nat) : Int))), (3, .int (Int32.ofInt ((ni : Nat) : Int))), (4, .int (Int32.ofInt ((c : Nat) : Int))), (5, .ref 100), (6, .int (Int32.ofInt ((s : Nat) : Int))), (7, .ref 124), (8, .ref 125)] [] (hp sh I J) := by
  have hst := hfin.1
  have hL := hst.1
  obtain ⟨hrk, hrw, hSH, hC, hk3, h124, h125, h126, hd5, ho5, hcs, hsw⟩ := id hL
  obtain ⟨ki, kc9, kg, hni1, hnis, hsN, hN23, hs7⟩ := id hrk
  obtain ⟨⟨f, hs0, hf⟩, hr, hR⟩ := id hrw
  have hM := hSH.1
  have hp7 := pow2_7 hs7
  have hp0 := Nat.two_pow_pos s
  obtain ⟨⟨fv, hv1, hv2⟩, hv3, hv4⟩ := hst.2.1
  have hth := hst.2.2.1
  have hkb := hth.2.2.2.2.2.1
  obtain ⟨hsd, hda, hda2⟩ := hfin.2.2.1
  obtain ⟨h130, h131, h132⟩ := hfin.2.2.2.1
  have hkv := hfin.2.2.2.2.1
  have hnv := hfin.2.2.2.2.2
  have hni8 : 2 ^ ni ≤ 8 := Nat.pow_le_pow_right (n := 2) (by decide) hcs.2.1
  have hp9 := pow2_7 (s := s - ni) (by omega)
  have hp90 := Nat.two_pow_pos (s - ni)
  have hps := pow_sp hnis
  have hfl : fst r2 s ni < 2 ^ (s - ni) := fst_lt (fun j a b => (kc9 j a b).2.2.1)
  have hpn := Nat.two_pow_pos ni
  refine lf_aload_n d_W_law_1833 rfl rfl rfl ?_
  refine lf_sipush d_W_law_1834 (v := Int32.ofInt ((390 : Nat) : Int)) (by decide +kernel) ?_
  refine lf_bipush d_W_law_1837 (v := Int32.ofInt ((6 : Nat) : Int)) (by decide +kernel) ?_
  refine gw_callI s_W_law_1839 (w_in hx (i := 390) (n := 6) (by omega) (by omega) (by omega)) (S := []) rfl rfl gcR_1 (by decide) (by decide +kernel) (Nat.le_of_ble_eq_true rfl) (fun r1839 I1839 J1839 w1839 => ?_)
  obtain ⟨⟨m9, hm9, rfl⟩, hi9, hj9⟩ := w1839
  rw [hi9, hj9]
  clear hi9 hj9
  refine lf_istore d_W_law_1842 (by decide +kernel) (L2 := [(30, _), (26, _), (19, _), (18, _), (17, _), (16, _), (15, _), (12, _), (9, _), (1, _), (0, _), (2, _), (3, _), (4, _), (5, _), (6, _), (7, _), (8, _)]) rfl ?_
  refine lf_aload_n d_W_law_1844 rfl rfl rfl ?_
  refine lf_sipush d_W_law_1845 (v := Int32.ofInt ((391 : Nat) : Int)) (by decide +kernel) ?_
  refine lf_iconst d_W_law_1848 (v := Int32.ofInt ((1 : Nat) : Int)) rfl ?_
  refine lf_iload_n d_W_law_1849 rfl rfl ?_
  refine gi_ishlN (a := 1) (s := ni) d_W_law_1850 (by omega) ?_
  refine gi_top (show ((1 * 2 ^ ni : Nat) : Int) = ((2 ^ ni : Nat) : Int) by rw [Nat.one_mul]) ?_
  refine gw_callI s_W_law_1851 (w_in hx (i := 391) (n := 2 ^ ni) (by omega) (by omega) (by omega)) (S := []) rfl rfl gcR_1 (by decide) (by decide +kernel) (Nat.le_of_ble_eq_true rfl) (fun r1851 I1851 J1851 w1851 => ?_)
  obtain ⟨⟨ch9, hch9, rfl⟩, hi9, hj9⟩ := w1851
  rw [hi9, hj9]
  clear hi9 hj9
  refine lf_istore d_W_law_1854 (by decide +kernel) (L2 := [(31, _), (30, _), (26, _), (19, _), (18, _), (17, _), (16, _), (15, _), (12, _), (9, _), (1, _), (0, _), (2, _), (3, _), (4, _), (5, _), (6, _), (7, _), (8, _)]) rfl ?_
  refine lf_iload d_W_law_1856 rfl ?_
  refine lf_istore d_W_law_1858 (by decide +kernel) (L2 := [(32, _), (31, _), (30, _), (26, _), (19, _), (18, _), (17, _), (16, _), (15, _), (12, _), (9, _), (1, _), (0, _), (2, _), (3, _), (4, _), (5, _), (6, _), (7, _), (8, _)]) rfl ?_
  refine lf_iconst d_W_law_1860 (v := Int32.ofInt ((0 : Nat) : Int)) rfl ?_
  refine lf_istore d_W_law_1861 (by decide +kernel) (L2 := [(33, _), (32, _), (31, _), (30, _), (26, _), (19, _), (18, _), (17, _), (16, _), (15, _), (12, _), (9, _), (1, _), (0, _), (2, _), (3, _), (4, _), (5, _), (6, _), (7, _), (8, _)]) rfl ?_
  refine law_n_s hx hfin hm9 hch9 ?_ m9 0 (by omega)
  have hxm : (itS J w s ni r2 dt ch9 m9) < 2 ^ (s - ni) := itS_lt hfl
  have hcl := chc_lt hnis hxm hch9
  have hn9 := law_n_r (kc := kc) (ks := ks) (D := D) (PX := PX) hx hfin hm9 hch9
  have eo : out J w s ot no 1 (chc ni (itS J w s ni r2 dt ch9 m9) ch9) = orS (fun j => bn (vlw N s kd r2 r3 (chc ni (itS J w s ni r2 dt ch9 m9) ch9) (ot 1 j))) no := orS_cg (fun j hj => congrArg bn (hbit_vl hth (ho5 1 j (by decide) hj).2 hcl))
  rw [eo] at hn9
  refine lf_iconst d_W_law_1888 (v := Int32.ofInt ((0 : Nat) : Int)) rfl ?_
  refine lf_istore d_W_law_1889 (by decide +kernel) (L2 := [(33, _), (32, _), (31, _), (30, _), (26, _), (19, _), (18, _), (17, _), (16, _), (15, _), (12, _), (9, _), (1, _), (0, _), (2, _), (3, _), (4, _), (5, _), (6, _), (7, _), (8, _)]) rfl ?_
  refine lf_iconst d_W_law_1891 (v := Int32.ofInt ((0 : Nat) : Int)) rfl ?_
  refine lf_istore d_W_law_1892 (by decide +kernel) (L2 := [(34, _), (33, _), (32, _), (31, _), (30, _), (26, _), (19, _), (18, _), (17, _), (16, _), (15, _), (12, _), (9, _), (1, _), (0, _), (2, _), (3, _), (4, _), (5, _), (6, _), (7, _), (8, _)]) rfl ?_
  exact law_n_o hx hfin hm9 hch9 hxm hn9 no 0 (by omega)
end LA10
