section LA5
variable {X : XT} {L9 : Nat} {xs : Nat → Int32} {sh : sM} {I : mI} {J : mJ}

variable {D : mF} {P : Option Value → mF → Prop} {PX : String → mF → Prop} {kc ks : Nat}

def OFFq (a0 q0 : Nat) (I1 I : mI) : Prop := ∀ a q, ¬ (a = a0 ∧ q = q0) → I1 a q = I a q
theorem OFF_p {a0 q0 : Nat} {z : Int} {I0 : mI} (h : OFFq a0 q0 I I0) : OFFq a0 q0 (ipt I a0 q0 z) I0 := fun a q hn => by
  by_cases e : a = a0
  · subst e
    rw [ipt_s, if_neg (fun z => hn ⟨rfl, z⟩)]
    exact h a q hn
  · rw [ipt_o e]
    exact h a q hn
theorem ST_H {I1 : mI} {N ni c s no w : Nat} {kd : Nat → Int} {ow r2 r3 dt : Nat → Nat} {ot : Nat → Nat → Nat} {bar : Int} (g : ∀ a, 130 ≤ a → a < 200 → True) (h1 : ∀ a, (a < 131 ∨ 200 ≤ a) → I1 a = I a) (h : STq sh I J N ni c s no w kd ow r2 r3 dt ot bar) : STq sh I1 J N ni c s no w kd ow r2 r3 dt ot bar :=
  ST_K (fun a _ => rfl) ⟨fun a q ha _ _ _ _ => congrFun (h1 a (by omega)) q, rfl, rfl, rfl, rfl⟩ (fun a h8 h9 => h1 a (by omega)) (congrFun (h1 15 (by omega)) 9) rfl rfl rfl h
theorem ST_N {sh1 : sM} {I1 : mI} {J1 : mJ} {N ni c s no w : Nat} {kd : Nat → Int} {ow r2 r3 dt : Nat → Nat} {ot : Nat → Nat → Nat} {bar : Int} (g : ∀ a, (a < 131 ∨ 200 ≤ a) → sh1 a = sh a ∧ I1 a = I a ∧ J1 a = J a) (h : STq sh I J N ni c s no w kd ow r2 r3 dt ot bar) : STq sh1 I1 J1 N ni c s no w kd ow r2 r3 dt ot bar :=
  ST_K (fun a ha => (g a (by omega)).1) ⟨fun a q ha _ _ _ _ => congrFun (g a (by omega)).2.1 q, (g 26 (by omega)).2.2, (g 27 (by omega)).2.2, (g 28 (by omega)).2.2, congrFun (g 15 (by omega)).2.2 3⟩ (fun a h8 h9 => (g a (by omega)).2.1) (congrFun (g 15 (by omega)).2.1 9) (g 29 (by omega)).2.2 (g 30 (by omega)).2.2 (congrFun (g 15 (by omega)).2.2 11) h
theorem bn_or1 (a b : Bool) (h : b = true) : bn a ||| 1 = bn (a || b) := by subst h; cases a <;> rfl
theorem bn_or0 (a b : Bool) (h : b = false) : bn a ||| 0 = bn (a || b) := by subst h; cases a <;> rfl
/-- the law's steps are the class's -/
theorem nxt_vl {N ni s w c : Nat} {kd : Nat → Int} {ow r2 r3 dt : Nat → Nat} {bar : Int} (h : TH I J N ni s w kd ow r2 r3 bar) (hd : ∀ j, ni ≤ j → j < s → dt j < N) (hc : c < 2 ^ s) : orS (fun t => bn (vlw N s kd r2 r3 c (dt (ni + t)))) (s - ni) = nxt J w s ni dt c :=
  orS_cg (fun j hj => by rw [hbit_vl h (hd (ni + j) (by omega) (by omega)) hc])
theorem un_vl {N ni s w no c : Nat} {kd : Nat → Int} {ow r2 r3 : Nat → Nat} {ot : Nat → Nat → Nat} {bar : Int} (h : TH I J N ni s w kd ow r2 r3 bar) (hd : ∀ t j, t < 2 → j < no → ot t j < N) (hc : c < 2 ^ s) : anyB (fun t => vlw N s kd r2 r3 c (ot 0 t) ^^ vlw N s kd r2 r3 c (ot 1 t)) no = unl2 J w s ot no c := by
  rw [unl2_b]
  exact anyB_cg (fun j hj => by rw [hbit_vl h (hd 0 j (by decide) hj) hc, hbit_vl h (hd 1 j (by decide) hj) hc])
theorem law_h_1 (hx : HX X L9 xs) {N ni c s no w : Nat} {kd : Nat → Int} {ow r2 r3 dt : Nat → Nat} {ot : Nat → Nat → Nat} {b : Nat} {ib : Bool} {bar : Int} (hst : STq sh I J N ni c s no w kd ow r2 r3 dt ot bar) (h131 : sh 131 = some (.inl (.int, 2 ^ s, 0, fun _ => none))) (h132 : sh 132 = some (.inl (.boolean, 2 ^ s, 0, fun _ => none))) {ch : Nat} (hch : ch < 2 ^ s) (k968 : ∀ I1 : mI, OFFq 131 ch I1 I → I1 131 ch = ((orS (fun t => bn (vlw N s kd r2 r3 ch (dt (ni + t)))) (s - ni) : Nat) : Int) → LXf TT cl6 X mi_W_law (40 + 11) (1000 + 200 * 11) D P PX kc ks 968 [(19, .int (Int32.ofInt ((ch : Nat) : Int))), (18, .ref 132), (17, .ref 131), (16, .int (Int32.ofInt ((2 ^ (s - ni) : Nat) : Int))), (15, .ref 130), (14, .int (Int32.ofInt ((bn ib : Nat) : Int))), (12, .ref 129), (11, .ref 128), (10, .int (Int32.ofInt ((b : Nat) : Int))), (9, .int (Int32.ofInt ((2 ^ s : Nat) : Int))), (1, .ref 0), (0, .retAddr 1), (2, .int (Int32.ofInt ((1 : Nat) : Int))), (3, .int (Int32.ofInt ((ni : Nat) : Int))), (4, .int (Int32.ofInt ((c : Nat) : Int))), (5, .ref 100), (6, .int (Int32.ofInt ((s : Nat) : Int))), (7, .ref 124), (8, .ref 125)] [] (hp sh I1 J)) : ∀ (d j : Nat) (I1 : mI), j + d = s - ni → OFFq 131 ch I1 I → I1 131 ch = ((orS (fun t => bn (vlw N s kd r2 r3 ch (dt (ni + t)))) j : Nat) : Int) → LXf TT cl6 X mi_W_law (40 + 11) (1000 + 200 * 11) D P PX kc ks 931 [(20, .int (Int32.ofInt ((ni + j : Nat) : Int))), (19, .int (Int32.ofInt ((ch : Nat) : Int))), (18, .ref 132), (17, .ref 131), (16, .int (Int32.ofInt ((2 ^ (s - ni) : Nat) : Int))), (15, .ref 130), (14, .int (Int32.ofInt ((bn ib : Nat) : Int))), (12, .ref 129), (11, .ref 128), (10, .int (Int32.ofInt ((b : Nat) : Int))), (9, .int (Int32.ofInt ((2 ^ s : Nat) : Int))), (1, .ref 0), (0, .retAddr 1), (2, .int (Int32.ofInt ((1 : Nat) : Int))), (3, .int (Int32.ofInt ((ni : Nat) : Int))), (4, .int (Int32.ofInt ((c : Nat) : Int))), (5, .ref 100), (6, .int (Int32.ofInt ((s : Nat) : Int))), (7, .ref 124), (8, .ref 125)] [] (hp sh I1 J) := by
  have hL := hst.1
  obtain ⟨hrk, hrw, hSH, hC, hk3, h124, h125, h126, hd5, ho5, hcs, hsw⟩ := id hL
  obtain ⟨ki, kc9, kg, hni1, hnis, hsN, hN23, hs7⟩ := id hrk
  obtain ⟨⟨f, hs0, hf⟩, hr, hR⟩ := id hrw
  have hM := hSH.1
  have hp7 := pow2_7 hs7
  have hp0 := Nat.two_pow_pos s
  obtain ⟨⟨fv, hv1, hv2⟩, hv3, hv4⟩ := hst.2.1
  have hth := hst.2.2.1
  have hkb := hth.2.2.2.2.2.1
  intro d
  induction d with
  | zero =>
    intro j I1 hd ho hv
    have hj : j = s - ni := by omega
    refine lf_iload d_W_law_931 rfl ?_
    refine lf_iload d_W_law_933 rfl ?_
    refine gi_icmp_ge d_W_law_935 (tgt := 968) (by decide) (by omega) (fun hb935 => ?_) (fun hb935 => False.elim (by omega))
    refine lf_sub [1, 2, 3, 4, 5, 6, 7, 8, 9, 10, 11, 12, 13, 14, 15, 16, 17, 18, 19] rfl ?_
    subst hj
    exact k968 I1 ho hv
  | succ d ih =>
    intro j I1 hd ho hv
    have hdj := hd5 (ni + j) (by omega) (by omega)
    have e1 : I1 124 (ni + j) = ((dt (ni + j) : Nat) : Int) := (ho 124 _ (by omega)).trans hdj.1
    have e2 : I1 (200 + ch) (dt (ni + j)) = ((bn (vlw N s kd r2 r3 ch (dt (ni + j))) : Nat) : Int) := (ho _ _ (by omega)).trans (hv4 ch _ hch hdj.2)
    have ef : ∀ z, z = orS (fun t => bn (vlw N s kd r2 r3 ch (dt (ni + t)))) (j + 1) → LXf TT cl6 X mi_W_law (40 + 11) (1000 + 200 * 11) D P PX kc ks 931 [(20, .int (Int32.ofInt ((ni + (j + 1) : Nat) : Int))), (19, .int (Int32.ofInt ((ch : Nat) : Int))), (18, .ref 132), (17, .ref 131), (16, .int (Int32.ofInt ((2 ^ (s - ni) : Nat) : Int))), (15, .ref 130), (14, .int (Int32.ofInt ((bn ib : Nat) : Int))), (12, .ref 129), (11, .ref 128), (10, .int (Int32.ofInt ((b : Nat) : Int))), (9, .int (Int32.ofInt ((2 ^ s : Nat) : Int))), (1, .ref 0), (0, .retAddr 1), (2, .int (Int32.ofInt ((1 : Nat) : Int))), (3, .int (Int32.ofInt ((ni : Nat) : Int))), (4, .int (Int32.ofInt ((c : Nat) : Int))), (5, .ref 100), (6, .int (Int32.ofInt ((s : Nat) : Int))), (7, .ref 124), (8, .ref 125)] [] (hp sh (ipt I1 131 ch ((z : Nat) : Int)) J) := fun z hz => by
      subst hz
      exact ih (j + 1) _ (by omega) (OFF_p ho) ipt_e
    refine lf_iload d_W_law_931 rfl ?_
    refine lf_iload d_W_law_933 rfl ?_
    refine gi_icmp_ge d_W_law_935 (tgt := 968) (by decide) (by omega) (fun hb935 => False.elim (by omega)) (fun hb935 => ?_)
    refine lf_aload d_W_law_938 rfl rfl ?_
    refine lf_iload d_W_law_940 rfl ?_
    refine lf_dup2 d_W_law_942 rfl rfl ?_
    refine gi_ialoadN d_W_law_943 h131 (by omega) ?_
    refine gi_top hv ?_
    refine lf_aload d_W_law_944 rfl rfl ?_
    refine lf_iload d_W_law_946 rfl ?_
    refine gi_aald (kd := 0) d_W_law_948 rfl hv1 (by omega) (hv2 ch (by omega)) ?_
    refine lf_aload d_W_law_949 rfl rfl ?_
    refine lf_iload d_W_law_951 rfl ?_
    refine gi_ialoadN d_W_law_953 h124 (by omega) ?_
    refine gi_top e1 ?_
    refine gi_ialoadN d_W_law_954 (hv3 ch (by omega)) (by omega) ?_
    refine gi_top e2 ?_
    refine lf_iload d_W_law_955 rfl ?_
    refine lf_iload_n d_W_law_957 rfl rfl ?_
    refine gi_isubN (a := (ni + j)) (b := ni) d_W_law_958 (by omega) ?_
    refine gi_top (show ((ni + j - ni : Nat) : Int) = ((j : Nat) : Int) from by omega) ?_
    refine gi_ishlN (a := (bn (vlw N s kd r2 r3 ch (dt (ni + j))))) (s := j) d_W_law_959 (by omega) ?_
    refine gi_iorN (a := (orS (fun t => bn (vlw N s kd r2 r3 ch (dt (ni + t)))) j)) (b := ((bn (vlw N s kd r2 r3 ch (dt (ni + j)))) * 2 ^ j)) d_W_law_960 ?_
    refine gi_iastoreN d_W_law_961 h131 (by omega) ?_
    refine gi_iincN d_W_law_962 rfl (by decide +kernel) (L2 := [(20, _), (19, _), (18, _), (17, _), (16, _), (15, _), (14, _), (12, _), (11, _), (10, _), (9, _), (1, _), (0, _), (2, _), (3, _), (4, _), (5, _), (6, _), (7, _), (8, _)]) rfl ?_
    refine lf_goto d_W_law_965 (tgt := 931) (by decide) ?_
    exact ef _ rfl
theorem law_h_2 (hx : HX X L9 xs) {N ni c s no w : Nat} {kd : Nat → Int} {ow r2 r3 dt : Nat → Nat} {ot : Nat → Nat → Nat} {b : Nat} {ib : Bool} {bar : Int} (hst : STq sh I J N ni c s no w kd ow r2 r3 dt ot bar) (h131 : sh 131 = some (.inl (.int, 2 ^ s, 0, fun _ => none))) (h132 : sh 132 = some (.inl (.boolean, 2 ^ s, 0, fun _ => none))) {ch : Nat} (hch : ch < 2 ^ s) (k1029 : ∀ I1 : mI, OFFq 132 ch I1 I → I1 132 ch = ((bn (anyB (fun t => vlw N s kd r2 r3 ch (ot 0 t) ^^ vlw N s kd r2 r3 ch (ot 1 t)) no) : Nat) : Int) → LXf TT cl6 X mi_W_law (40 + 11) (1000 + 200 * 11) D P PX kc ks 1029 [(19, .int (Int32.ofInt ((ch : Nat) : Int))), (18, .ref 132), (17, .ref 131), (16, .int (Int32.ofInt ((2 ^ (s - ni) : Nat) : Int))), (15, .ref 130), (14, .int (Int32.ofInt ((bn ib : Nat) : Int))), (12, .ref 129), (11, .ref 128), (10, .int (Int32.ofInt ((b : Nat) : Int))), (9, .int (Int32.ofInt ((2 ^ s : Nat) : Int))), (1, .ref 0), (0, .retAddr 1), (2, .int (Int32.ofInt ((1 : Nat) : Int))), (3, .int (Int32.ofInt ((ni : Nat) : Int))), (4, .int (Int32.ofInt ((c : Nat) : Int))), (5, .ref 100), (6, .int (Int32.ofInt ((s : Nat) : Int))), (7, .ref 124), (8, .ref 125)] [] (hp sh I1 J)) : ∀ (d k : Nat) (I1 : mI), k + d = no → OFFq 132 ch I1 I → I1 132 ch = ((bn (anyB (fun t => vlw N s kd r2 r3 ch (ot 0 t) ^^ vlw N s kd r2 r3 ch (ot 1 t)) k) : Nat) : Int) → LXf TT cl6 X mi_W_law (40 + 11) (1000 + 200 * 11) D P PX kc ks 971 [(20, .int (Int32.ofInt ((k : Nat) : Int))), (19, .int (Int32.ofInt ((ch : Nat) : Int))), (18, .ref 132), (17, .ref 131), (16, .int (Int32.ofInt ((2 ^ (s - ni) : Nat) : Int))), (15, .ref 130), (14, .int (Int32.ofInt ((bn ib : Nat) : Int))), (12, .ref 129), (11, .ref 128), (10, .int (Int32.ofInt ((b : Nat) : Int))), (9, .int (Int32.ofInt ((2 ^ s : Nat) : Int))), (1, .ref 0), (0, .retAddr 1), (2, .int (Int32.ofInt ((1 : Nat) : Int))), (3, .int (Int32.ofInt ((ni : Nat) : Int))), (4, .int (Int32.ofInt ((c : Nat) : Int))), (5, .ref 100), (6, .int (Int32.ofInt ((s : Nat) : Int))), (7, .ref 124), (8, .ref 125)] [] (hp sh I1 J) := by
  have hL := hst.1
  obtain ⟨hrk, hrw, hSH, hC, hk3, h124, h125, h126, hd5, ho5, hcs, hsw⟩ := id hL
  obtain ⟨ki, kc9, kg, hni1, hnis, hsN, hN23, hs7⟩ := id hrk
  obtain ⟨⟨f, hs0, hf⟩, hr, hR⟩ := id hrw
  have hM := hSH.1
  have hp7 := pow2_7 hs7
  have hp0 := Nat.two_pow_pos s
  obtain ⟨⟨fv, hv1, hv2⟩, hv3, hv4⟩ := hst.2.1
  have hth := hst.2.2.1
  have hkb := hth.2.2.2.2.2.1
  obtain ⟨f5, h125v, hf5⟩ := h125
  intro d
  induction d with
  | zero =>
    intro k I1 hd ho hv
    obtain rfl : no = k := by omega
    refine lf_iload d_W_law_971 rfl ?_
    refine lf_aload d_W_law_973 rfl rfl ?_
    refine lf_iconst d_W_law_975 (v := Int32.ofInt ((0 : Nat) : Int)) rfl ?_
    refine gi_aald (kd := 0) d_W_law_976 rfl h125v (by omega) (hf5 0 (by decide)) ?_
    refine gi_len d_W_law_977 (h126 0 (by decide)) ?_
    refine gi_icmp_ge d_W_law_978 (tgt := 1029) (by decide) (by omega) (fun hb978 => ?_) (fun hb978 => False.elim (by omega))
    refine lf_sub [1, 2, 3, 4, 5, 6, 7, 8, 9, 10, 11, 12, 13, 14, 15, 16, 17, 18, 19] rfl ?_
    exact k1029 I1 ho hv
  | succ d ih =>
    intro k I1 hd ho hv
    have hd0 := ho5 0 k (by decide) (by omega)
    have hd1 := ho5 1 k (by decide) (by omega)
    have e0 : I1 (126 + 0) k = ((ot 0 k : Nat) : Int) := (ho _ _ (by omega)).trans hd0.1
    have e1 : I1 (126 + 1) k = ((ot 1 k : Nat) : Int) := (ho _ _ (by omega)).trans hd1.1
    have f0 : I1 (200 + ch) (ot 0 k) = ((bn (vlw N s kd r2 r3 ch (ot 0 k)) : Nat) : Int) := (ho _ _ (by omega)).trans (hv4 ch _ hch hd0.2)
    have f1 : I1 (200 + ch) (ot 1 k) = ((bn (vlw N s kd r2 r3 ch (ot 1 k)) : Nat) : Int) := (ho _ _ (by omega)).trans (hv4 ch _ hch hd1.2)
    have hle := bn_le (anyB (fun t => vlw N s kd r2 r3 ch (ot 0 t) ^^ vlw N s kd r2 r3 ch (ot 1 t)) (k + 1))
    have eq1 : anyB (fun t => vlw N s kd r2 r3 ch (ot 0 t) ^^ vlw N s kd r2 r3 ch (ot 1 t)) (k + 1) = (anyB (fun t => vlw N s kd r2 r3 ch (ot 0 t) ^^ vlw N s kd r2 r3 ch (ot 1 t)) k || (vlw N s kd r2 r3 ch (ot 0 k) ^^ vlw N s kd r2 r3 ch (ot 1 k))) := rfl
    have ef : LXf TT cl6 X mi_W_law (40 + 11) (1000 + 200 * 11) D P PX kc ks 971 [(20, .int (Int32.ofInt (((k + 1) : Nat) : Int))), (19, .int (Int32.ofInt ((ch : Nat) : Int))), (18, .ref 132), (17, .ref 131), (16, .int (Int32.ofInt ((2 ^ (s - ni) : Nat) : Int))), (15, .ref 130), (14, .int (Int32.ofInt ((bn ib : Nat) : Int))), (12, .ref 129), (11, .ref 128), (10, .int (Int32.ofInt ((b : Nat) : Int))), (9, .int (Int32.ofInt ((2 ^ s : Nat) : Int))), (1, .ref 0), (0, .retAddr 1), (2, .int (Int32.ofInt ((1 : Nat) : Int))), (3, .int (Int32.ofInt ((ni : Nat) : Int))), (4, .int (Int32.ofInt ((c : Nat) : Int))), (5, .ref 100), (6, .int (Int32.ofInt ((s : Nat) : Int))), (7, .ref 124), (8, .ref 125)] [] (hp sh (ipt I1 132 ch ((bn (anyB (fun t => vlw N s kd r2 r3 ch (ot 0 t) ^^ vlw N s kd r2 r3 ch (ot 1 t)) (k + 1)) : Nat) : Int)) J) := ih (k + 1) _ (by omega) (OFF_p ho) ipt_e
    cases x0 : vlw N s kd r2 r3 ch (ot 0 k) with
    | true =>
      have y0 : bn (vlw N s kd r2 r3 ch (ot 0 k)) = 1 := by rw [x0]; rfl
      cases x1 : vlw N s kd r2 r3 ch (ot 1 k) with
      | true =>
        have y1 : bn (vlw N s kd r2 r3 ch (ot 1 k)) = 1 := by rw [x1]; rfl
        refine lf_iload d_W_law_971 rfl ?_
        refine lf_aload d_W_law_973 rfl rfl ?_
        refine lf_iconst d_W_law_975 (v := Int32.ofInt ((0 : Nat) : Int)) rfl ?_
        refine gi_aald (kd := 0) d_W_law_976 rfl h125v (by omega) (hf5 0 (by decide)) ?_
        refine gi_len d_W_law_977 (h126 0 (by decide)) ?_
        refine gi_icmp_ge d_W_law_978 (tgt := 1029) (by decide) (by omega) (fun hb978 => False.elim (by omega)) (fun hb978 => ?_)
        refine lf_aload d_W_law_981 rfl rfl ?_
        refine lf_iload d_W_law_983 rfl ?_
        refine lf_dup2 d_W_law_985 rfl rfl ?_
        refine gi_zaloadN d_W_law_986 h132 (by omega) ?_
        refine gi_top hv ?_
        refine lf_aload d_W_law_987 rfl rfl ?_
        refine lf_iload d_W_law_989 rfl ?_
        refine gi_aald (kd := 0) d_W_law_991 rfl hv1 (by omega) (hv2 ch (by omega)) ?_
        refine lf_aload d_W_law_992 rfl rfl ?_
        refine lf_iconst d_W_law_994 (v := Int32.ofInt ((0 : Nat) : Int)) rfl ?_
        refine gi_aald (kd := 0) d_W_law_995 rfl h125v (by omega) (hf5 0 (by decide)) ?_
        refine lf_iload d_W_law_996 rfl ?_
        refine gi_ialoadN d_W_law_998 (h126 0 (by decide)) (by omega) ?_
        refine gi_top e0 ?_
        refine gi_ialoadN d_W_law_999 (hv3 ch (by omega)) (by omega) ?_
        refine gi_top f0 ?_
        refine lf_aload d_W_law_1000 rfl rfl ?_
        refine lf_iload d_W_law_1002 rfl ?_
        refine gi_aald (kd := 0) d_W_law_1004 rfl hv1 (by omega) (hv2 ch (by omega)) ?_
        refine lf_aload d_W_law_1005 rfl rfl ?_
        refine lf_iconst d_W_law_1007 (v := Int32.ofInt ((1 : Nat) : Int)) rfl ?_
        refine gi_aald (kd := 0) d_W_law_1008 rfl h125v (by omega) (hf5 1 (by decide)) ?_
        refine lf_iload d_W_law_1009 rfl ?_
        refine gi_ialoadN d_W_law_1011 (h126 1 (by decide)) (by omega) ?_
        refine gi_top e1 ?_
        refine gi_ialoadN d_W_law_1012 (hv3 ch (by omega)) (by omega) ?_
        refine gi_top f1 ?_
        refine gi_icmp_eq d_W_law_1013 (tgt := 1020) (by decide) (by omega) (fun hb1013 => ?_) (fun hb1013 => False.elim (by omega))
        refine lf_iconst d_W_law_1020 (v := Int32.ofInt ((0 : Nat) : Int)) rfl ?_
        refine gi_iorN (a := (bn (anyB (fun t => vlw N s kd r2 r3 ch (ot 0 t) ^^ vlw N s kd r2 r3 ch (ot 1 t)) k))) (b := 0) d_W_law_1021 ?_
        refine gi_top (show ((bn (anyB (fun t => vlw N s kd r2 r3 ch (ot 0 t) ^^ vlw N s kd r2 r3 ch (ot 1 t)) k) ||| 0 : Nat) : Int) = ((bn (anyB (fun t => vlw N s kd r2 r3 ch (ot 0 t) ^^ vlw N s kd r2 r3 ch (ot 1 t)) (k + 1)) : Nat) : Int) from congrArg Int.ofNat (bn_or0 _ _ (by show (vlw N s kd r2 r3 ch (ot 0 k) ^^ vlw N s kd r2 r3 ch (ot 1 k)) = _; rw [x0, x1]; rfl))) ?_
        refine gi_zastoreN d_W_law_1022 h132 (by omega) (by omega) ?_
        refine gi_iincN d_W_law_1023 rfl (by decide +kernel) (L2 := [(20, _), (19, _), (18, _), (17, _), (16, _), (15, _), (14, _), (12, _), (11, _), (10, _), (9, _), (1, _), (0, _), (2, _), (3, _), (4, _), (5, _), (6, _), (7, _), (8, _)]) rfl ?_
        refine lf_goto d_W_law_1026 (tgt := 971) (by decide) ?_
        exact ef
      | false =>
        have y1 : bn (vlw N s kd r2 r3 ch (ot 1 k)) = 0 := by rw [x1]; rfl
        refine lf_iload d_W_law_971 rfl ?_
        refine lf_aload d_W_law_973 rfl rfl ?_
        refine lf_iconst d_W_law_975 (v := Int32.ofInt ((0 : Nat) : Int)) rfl ?_
        refine gi_aald (kd := 0) d_W_law_976 rfl h125v (by omega) (hf5 0 (by decide)) ?_
        refine gi_len d_W_law_977 (h126 0 (by decide)) ?_
        refine gi_icmp_ge d_W_law_978 (tgt := 1029) (by decide) (by omega) (fun hb978 => False.elim (by omega)) (fun hb978 => ?_)
        refine lf_aload d_W_law_981 rfl rfl ?_
        refine lf_iload d_W_law_983 rfl ?_
        refine lf_dup2 d_W_law_985 rfl rfl ?_
        refine gi_zaloadN d_W_law_986 h132 (by omega) ?_
        refine gi_top hv ?_
        refine lf_aload d_W_law_987 rfl rfl ?_
        refine lf_iload d_W_law_989 rfl ?_
        refine gi_aald (kd := 0) d_W_law_991 rfl hv1 (by omega) (hv2 ch (by omega)) ?_
        refine lf_aload d_W_law_992 rfl rfl ?_
        refine lf_iconst d_W_law_994 (v := Int32.ofInt ((0 : Nat) : Int)) rfl ?_
        refine gi_aald (kd := 0) d_W_law_995 rfl h125v (by omega) (hf5 0 (by decide)) ?_
        refine lf_iload d_W_law_996 rfl ?_
        refine gi_ialoadN d_W_law_998 (h126 0 (by decide)) (by omega) ?_
        refine gi_top e0 ?_
        refine gi_ialoadN d_W_law_999 (hv3 ch (by omega)) (by omega) ?_
        refine gi_top f0 ?_
        refine lf_aload d_W_law_1000 rfl rfl ?_
        refine lf_iload d_W_law_1002 rfl ?_
        refine gi_aald (kd := 0) d_W_law_1004 rfl hv1 (by omega) (hv2 ch (by omega)) ?_
        refine lf_aload d_W_law_1005 rfl rfl ?_
        refine lf_iconst d_W_law_1007 (v := Int32.ofInt ((1 : Nat) : Int)) rfl ?_
        refine gi_aald (kd := 0) d_W_law_1008 rfl h125v (by omega) (hf5 1 (by decide)) ?_
        refine lf_iload d_W_law_1009 rfl ?_
        refine gi_ialoadN d_W_law_1011 (h126 1 (by decide)) (by omega) ?_
        refine gi_top e1 ?_
        refine gi_ialoadN d_W_law_1012 (hv3 ch (by omega)) (by omega) ?_
        refine gi_top f1 ?_
        refine gi_icmp_eq d_W_law_1013 (tgt := 1020) (by decide) (by omega) (fun hb1013 => False.elim (by omega)) (fun hb1013 => ?_)
        refine lf_iconst d_W_law_1016 (v := Int32.ofInt ((1 : Nat) : Int)) rfl ?_
        refine lf_goto d_W_law_1017 (tgt := 1021) (by decide) ?_
        refine gi_iorN (a := (bn (anyB (fun t => vlw N s kd r2 r3 ch (ot 0 t) ^^ vlw N s kd r2 r3 ch (ot 1 t)) k))) (b := 1) d_W_law_1021 ?_
        refine gi_top (show ((bn (anyB (fun t => vlw N s kd r2 r3 ch (ot 0 t) ^^ vlw N s kd r2 r3 ch (ot 1 t)) k) ||| 1 : Nat) : Int) = ((bn (anyB (fun t => vlw N s kd r2 r3 ch (ot 0 t) ^^ vlw N s kd r2 r3 ch (ot 1 t)) (k + 1)) : Nat) : Int) from congrArg Int.ofNat (bn_or1 _ _ (by show (vlw N s kd r2 r3 ch (ot 0 k) ^^ vlw N s kd r2 r3 ch (ot 1 k)) = _; rw [x0, x1]; rfl))) ?_
        refine gi_zastoreN d_W_law_1022 h132 (by omega) (by omega) ?_
        refine gi_iincN d_W_law_1023 rfl (by decide +kernel) (L2 := [(20, _), (19, _), (18, _), (17, _), (16, _), (15, _), (14, _), (12, _), (11, _), (10, _), (9, _), (1, _), (0, _), (2, _), (3, _), (4, _), (5, _), (6, _), (7, _), (8, _)]) rfl ?_
        refine lf_goto d_W_law_1026 (tgt := 971) (by decide) ?_
        exact ef
    | false =>
      have y0 : bn (vlw N s kd r2 r3 ch (ot 0 k)) = 0 := by rw [x0]; rfl
      cases x1 : vlw N s kd r2 r3 ch (ot 1 k) with
      | true =>
        have y1 : bn (vlw N s kd r2 r3 ch (ot 1 k)) = 1 := by rw [x1]; rfl
        refine lf_iload d_W_law_971 rfl ?_
        refine lf_aload d_W_law_973 rfl rfl ?_
        refine lf_iconst d_W_law_975 (v := Int32.ofInt ((0 : Nat) : Int)) rfl ?_
        refine gi_aald (kd := 0) d_W_law_976 rfl h125v (by omega) (hf5 0 (by decide)) ?_
        refine gi_len d_W_law_977 (h126 0 (by decide)) ?_
        refine gi_icmp_ge d_W_law_978 (tgt := 1029) (by decide) (by omega) (fun hb978 => False.elim (by omega)) (fun hb978 => ?_)
        refine lf_aload d_W_law_981 rfl rfl ?_
        refine lf_iload d_W_law_983 rfl ?_
        refine lf_dup2 d_W_law_985 rfl rfl ?_
        refine gi_zaloadN d_W_law_986 h132 (by omega) ?_
        refine gi_top hv ?_
        refine lf_aload d_W_law_987 rfl rfl ?_
        refine lf_iload d_W_law_989 rfl ?_
        refine gi_aald (kd := 0) d_W_law_991 rfl hv1 (by omega) (hv2 ch (by omega)) ?_
        refine lf_aload d_W_law_992 rfl rfl ?_
        refine lf_iconst d_W_law_994 (v := Int32.ofInt ((0 : Nat) : Int)) rfl ?_
        refine gi_aald (kd := 0) d_W_law_995 rfl h125v (by omega) (hf5 0 (by decide)) ?_
        refine lf_iload d_W_law_996 rfl ?_
        refine gi_ialoadN d_W_law_998 (h126 0 (by decide)) (by omega) ?_
        refine gi_top e0 ?_
        refine gi_ialoadN d_W_law_999 (hv3 ch (by omega)) (by omega) ?_
        refine gi_top f0 ?_
        refine lf_aload d_W_law_1000 rfl rfl ?_
        refine lf_iload d_W_law_1002 rfl ?_
        refine gi_aald (kd := 0) d_W_law_1004 rfl hv1 (by omega) (hv2 ch (by omega)) ?_
        refine lf_aload d_W_law_1005 rfl rfl ?_
        refine lf_iconst d_W_law_1007 (v := Int32.ofInt ((1 : Nat) : Int)) rfl ?_
        refine gi_aald (kd := 0) d_W_law_1008 rfl h125v (by omega) (hf5 1 (by decide)) ?_
        refine lf_iload d_W_law_1009 rfl ?_
        refine gi_ialoadN d_W_law_1011 (h126 1 (by decide)) (by omega) ?_
        refine gi_top e1 ?_
        refine gi_ialoadN d_W_law_1012 (hv3 ch (by omega)) (by omega) ?_
        refine gi_top f1 ?_
        refine gi_icmp_eq d_W_law_1013 (tgt := 1020) (by decide) (by omega) (fun hb1013 => False.elim (by omega)) (fun hb1013 => ?_)
        refine lf_iconst d_W_law_1016 (v := Int32.ofInt ((1 : Nat) : Int)) rfl ?_
        refine lf_goto d_W_law_1017 (tgt := 1021) (by decide) ?_
        refine gi_iorN (a := (bn (anyB (fun t => vlw N s kd r2 r3 ch (ot 0 t) ^^ vlw N s kd r2 r3 ch (ot 1 t)) k))) (b := 1) d_W_law_1021 ?_
        refine gi_top (show ((bn (anyB (fun t => vlw N s kd r2 r3 ch (ot 0 t) ^^ vlw N s kd r2 r3 ch (ot 1 t)) k) ||| 1 : Nat) : Int) = ((bn (anyB (fun t => vlw N s kd r2 r3 ch (ot 0 t) ^^ vlw N s kd r2 r3 ch (ot 1 t)) (k + 1)) : Nat) : Int) from congrArg Int.ofNat (bn_or1 _ _ (by show (vlw N s kd r2 r3 ch (ot 0 k) ^^ vlw N s kd r2 r3 ch (ot 1 k)) = _; rw [x0, x1]; rfl))) ?_
        refine gi_zastoreN d_W_law_1022 h132 (by omega) (by omega) ?_
        refine gi_iincN d_W_law_1023 rfl (by decide +kernel) (L2 := [(20, _), (19, _), (18, _), (17, _), (16, _), (15, _), (14, _), (12, _), (11, _), (10, _), (9, _), (1, _), (0, _), (2, _), (3, _), (4, _), (5, _), (6, _), (7, _), (8, _)]) rfl ?_
        refine lf_goto d_W_law_1026 (tgt := 971) (by decide) ?_
        exact ef
      | false =>
        have y1 : bn (vlw N s kd r2 r3 ch (ot 1 k)) = 0 := by rw [x1]; rfl
        refine lf_iload d_W_law_971 rfl ?_
        refine lf_aload d_W_law_973 rfl rfl ?_
        refine lf_iconst d_W_law_975 (v := Int32.ofInt ((0 : Nat) : Int)) rfl ?_
        refine gi_aald (kd := 0) d_W_law_976 rfl h125v (by omega) (hf5 0 (by decide)) ?_
        refine gi_len d_W_law_977 (h126 0 (by decide)) ?_
        refine gi_icmp_ge d_W_law_978 (tgt := 1029) (by decide) (by omega) (fun hb978 => False.elim (by omega)) (fun hb978 => ?_)
        refine lf_aload d_W_law_981 rfl rfl ?_
        refine lf_iload d_W_law_983 rfl ?_
        refine lf_dup2 d_W_law_985 rfl rfl ?_
        refine gi_zaloadN d_W_law_986 h132 (by omega) ?_
        refine gi_top hv ?_
        refine lf_aload d_W_law_987 rfl rfl ?_
        refine lf_iload d_W_law_989 rfl ?_
        refine gi_aald (kd := 0) d_W_law_991 rfl hv1 (by omega) (hv2 ch (by omega)) ?_
        refine lf_aload d_W_law_992 rfl rfl ?_
        refine lf_iconst d_W_law_994 (v := Int32.ofInt ((0 : Nat) : Int)) rfl ?_
        refine gi_aald (kd := 0) d_W_law_995 rfl h125v (by omega) (hf5 0 (by decide)) ?_
        refine lf_iload d_W_law_996 rfl ?_
        refine gi_ialoadN d_W_law_998 (h126 0 (by decide)) (by omega) ?_
        refine gi_top e0 ?_
        refine gi_ialoadN d_W_law_999 (hv3 ch (by omega)) (by omega) ?_
        refine gi_top f0 ?_
        refine lf_aload d_W_law_1000 rfl rfl ?_
        refine lf_iload d_W_law_1002 rfl ?_
        refine gi_aald (kd := 0) d_W_law_1004 rfl hv1 (by omega) (hv2 ch (by omega)) ?_
        refine lf_aload d_W_law_1005 rfl rfl ?_
        refine lf_iconst d_W_law_1007 (v := Int32.ofInt ((1 : Nat) : Int)) rfl ?_
        refine gi_aald (kd := 0) d_W_law_1008 rfl h125v (by omega) (hf5 1 (by decide)) ?_
        refine lf_iload d_W_law_1009 rfl ?_
        refine gi_ialoadN d_W_law_1011 (h126 1 (by decide)) (by omega) ?_
        refine gi_top e1 ?_
        refine gi_ialoadN d_W_law_1012 (hv3 ch (by omega)) (by omega) ?_
        refine gi_top f1 ?_
        refine gi_icmp_eq d_W_law_1013 (tgt := 1020) (by decide) (by omega) (fun hb1013 => ?_) (fun hb1013 => False.elim (by omega))
        refine lf_iconst d_W_law_1020 (v := Int32.ofInt ((0 : Nat) : Int)) rfl ?_
        refine gi_iorN (a := (bn (anyB (fun t => vlw N s kd r2 r3 ch (ot 0 t) ^^ vlw N s kd r2 r3 ch (ot 1 t)) k))) (b := 0) d_W_law_1021 ?_
        refine gi_top (show ((bn (anyB (fun t => vlw N s kd r2 r3 ch (ot 0 t) ^^ vlw N s kd r2 r3 ch (ot 1 t)) k) ||| 0 : Nat) : Int) = ((bn (anyB (fun t => vlw N s kd r2 r3 ch (ot 0 t) ^^ vlw N s kd r2 r3 ch (ot 1 t)) (k + 1)) : Nat) : Int) from congrArg Int.ofNat (bn_or0 _ _ (by show (vlw N s kd r2 r3 ch (ot 0 k) ^^ vlw N s kd r2 r3 ch (ot 1 k)) = _; rw [x0, x1]; rfl))) ?_
        refine gi_zastoreN d_W_law_1022 h132 (by omega) (by omega) ?_
        refine gi_iincN d_W_law_1023 rfl (by decide +kernel) (L2 := [(20, _), (19, _), (18, _), (17, _), (16, _), (15, _), (14, _), (12, _), (11, _), (10, _), (9, _), (1, _), (0, _), (2, _), (3, _), (4, _), (5, _), (6, _), (7, _), (8, _)]) rfl ?_
        refine lf_goto d_W_law_1026 (tgt := 971) (by decide) ?_
        exact ef
theorem law_h_l (hx : HX X L9 xs) {N ni c s no w : Nat} {kd : Nat → Int} {ow r2 r3 dt : Nat → Nat} {ot : Nat → Nat → Nat} {b : Nat} {ib : Bool} {bar : Int} (hst : STq sh I J N ni c s no w kd ow r2 r3 dt ot bar) (h131 : sh 131 = some (.inl (.int, 2 ^ s, 0, fun _ => none))) (h132 : sh 132 = some (.inl (.boolean, 2 ^ s, 0, fun _ => none))) (k1035 : ∀ I1 : mI, (∀ a, ¬ a = 131 → ¬ a = 132 → I1 a = I a) ∧ (∀ j, j < 2 ^ s → I1 131 j = ((nxt J w s ni dt j : Nat) : Int) ∧ I1 132 j = ((bn (unl2 J w s ot no j) : Nat) : Int)) ∧ (∀ j, 2 ^ s ≤ j → I1 131 j = 0 ∧ I1 132 j = 0) → LXf TT cl6 X mi_W_law (40 + 11) (1000 + 200 * 11) D P PX kc ks 1035 [(18, .ref 132), (17, .ref 131), (16, .int (Int32.ofInt ((2 ^ (s - ni) : Nat) : Int))), (15, .ref 130), (14, .int (Int32.ofInt ((bn ib : Nat) : Int))), (12, .ref 129), (11, .ref 128), (10, .int (Int32.ofInt ((b : Nat) : Int))), (9, .int (Int32.ofInt ((2 ^ s : Nat) : Int))), (1, .ref 0), (0, .retAddr 1), (2, .int (Int32.ofInt ((1 : Nat) : Int))), (3, .int (Int32.ofInt ((ni : Nat) : Int))), (4, .int (Int32.ofInt ((c : Nat) : Int))), (5, .ref 100), (6, .int (Int32.ofInt ((s : Nat) : Int))), (7, .ref 124), (8, .ref 125)] [] (hp sh I1 J)) : ∀ (d ch : Nat) (I1 : mI), ch + d = 2 ^ s → (∀ a, ¬ a = 131 → ¬ a = 132 → I1 a = I a) ∧ (∀ j, j < ch → I1 131 j = ((nxt J w s ni dt j : Nat) : Int) ∧ I1 132 j = ((bn (unl2 J w s ot no j) : Nat) : Int)) ∧ (∀ j, ch ≤ j → I1 131 j = 0 ∧ I1 132 j = 0) → LXf TT cl6 X mi_W_law (40 + 11) (1000 + 200 * 11) D P PX kc ks 921 [(19, .int (Int32.ofInt ((ch : Nat) : Int))), (18, .ref 132), (17, .ref 131), (16, .int (Int32.ofInt ((2 ^ (s - ni) : Nat) : Int))), (15, .ref 130), (14, .int (Int32.ofInt ((bn ib : Nat) : Int))), (12, .ref 129), (11, .ref 128), (10, .int (Int32.ofInt ((b : Nat) : Int))), (9, .int (Int32.ofInt ((2 ^ s : Nat) : Int))), (1, .ref 0), (0, .retAddr 1), (2, .int (Int32.ofInt ((1 : Nat) : Int))), (3, .int (Int32.ofInt ((ni : Nat) : Int))), (4, .int (Int32.ofInt ((c : Nat) : Int))), (5, .ref 100), (6, .int (Int32.ofInt ((s : Nat) : Int))), (7, .ref 124), (8, .ref 125)] [] (hp sh I1 J) := by
  have hL := hst.1
  obtain ⟨hrk, hrw, hSH, hC, hk3, h124, h125, h126, hd5, ho5, hcs, hsw⟩ := id hL
  obtain ⟨ki, kc9, kg, hni1, hnis, hsN, hN23, hs7⟩ := id hrk
  obtain ⟨⟨f, hs0, hf⟩, hr, hR⟩ := id hrw
  have hM := hSH.1
  have hp7 := pow2_7 hs7
  have hp0 := Nat.two_pow_pos s
  obtain ⟨⟨fv, hv1, hv2⟩, hv3, hv4⟩ := hst.2.1
  have hth := hst.2.2.1
  have hkb := hth.2.2.2.2.2.1
  intro d
  induction d with
  | zero =>
    intro ch I1 hd hb
    have hch : ch = 2 ^ s := by omega
    refine lf_iload d_W_law_921 rfl ?_
    refine lf_iload d_W_law_923 rfl ?_
    refine gi_icmp_ge d_W_law_925 (tgt := 1035) (by decide) (by omega) (fun hb925 => ?_) (fun hb925 => False.elim (by omega))
    refine lf_sub [1, 2, 3, 4, 5, 6, 7, 8, 9, 10, 11, 12, 13, 14, 15, 16, 17, 18] rfl ?_
    subst hch
    exact k1035 I1 hb
  | succ d ih =>
    intro ch I1 hd hb
    have hch : ch < 2 ^ s := by omega
    obtain ⟨b1, b2, b3⟩ := id hb
    have hst1 : STq sh I1 J N ni c s no w kd ow r2 r3 dt ot bar := ST_H (fun _ _ _ => trivial) (fun a ha => b1 a (by omega) (by omega)) hst
    refine lf_iload d_W_law_921 rfl ?_
    refine lf_iload d_W_law_923 rfl ?_
    refine gi_icmp_ge d_W_law_925 (tgt := 1035) (by decide) (by omega) (fun hb925 => False.elim (by omega)) (fun hb925 => ?_)
    refine lf_iload_n d_W_law_928 rfl rfl ?_
    refine lf_istore d_W_law_929 (by decide +kernel) (L2 := [(20, _), (19, _), (18, _), (17, _), (16, _), (15, _), (14, _), (12, _), (11, _), (10, _), (9, _), (1, _), (0, _), (2, _), (3, _), (4, _), (5, _), (6, _), (7, _), (8, _)]) rfl ?_
    refine law_h_1 hx hst1 h131 h132 hch (fun I2 o2 v2 => ?_) (s - ni) 0 I1 (by omega) (fun _ _ _ => rfl) (b3 ch (Nat.le_refl _)).1
    have hst2 : STq sh I2 J N ni c s no w kd ow r2 r3 dt ot bar := ST_H (fun _ _ _ => trivial) (fun a ha => funext fun q => o2 a q (by omega)) hst1
    refine lf_iconst d_W_law_968 (v := Int32.ofInt ((0 : Nat) : Int)) rfl ?_
    refine lf_istore d_W_law_969 (by decide +kernel) (L2 := [(20, _), (19, _), (18, _), (17, _), (16, _), (15, _), (14, _), (12, _), (11, _), (10, _), (9, _), (1, _), (0, _), (2, _), (3, _), (4, _), (5, _), (6, _), (7, _), (8, _)]) rfl ?_
    refine law_h_2 hx hst2 h131 h132 hch (fun I3 o3 v3 => ?_) no 0 I2 (by omega) (fun _ _ _ => rfl) ((o2 132 ch (by omega)).trans (b3 ch (Nat.le_refl _)).2)
    refine gi_iincN d_W_law_1029 rfl (by decide +kernel) (L2 := [(19, _), (18, _), (17, _), (16, _), (15, _), (14, _), (12, _), (11, _), (10, _), (9, _), (1, _), (0, _), (2, _), (3, _), (4, _), (5, _), (6, _), (7, _), (8, _)]) rfl ?_
    refine lf_goto d_W_law_1032 (tgt := 921) (by decide) ?_
    refine ih (ch + 1) I3 (by omega) ⟨fun a h1 h2 => funext fun q => (o3 a q (by omega)).trans ((o2 a q (by omega)).trans (congrFun (b1 a h1 h2) q)), fun j hj => ?_, fun j hj => ⟨(o3 131 j (by omega)).trans ((o2 131 j (by omega)).trans (b3 j (by omega)).1), (o3 132 j (by omega)).trans ((o2 132 j (by omega)).trans (b3 j (by omega)).2)⟩⟩
    by_cases e : j = ch
    · rw [e]
      refine ⟨(o3 131 ch (by omega)).trans (v2.trans ?_), v3.trans ?_⟩
      · rw [nxt_vl hth (fun j a b => (hd5 j a b).2) hch]
      · rw [un_vl hth (fun t j a b => (ho5 t j a b).2) hch]
    · exact ⟨(o3 131 j (by omega)).trans ((o2 131 j (by omega)).trans (b2 j (by omega)).1), (o3 132 j (by omega)).trans ((o2 132 j (by omega)).trans (b2 j (by omega)).2)⟩
theorem law_h (hx : HX X L9 xs) {N ni c s no w : Nat} {kd : Nat → Int} {ow r2 r3 dt : Nat → Nat} {ot : Nat → Nat → Nat} {b : Nat} {ib : Bool} {bar : Int} (hst : STq sh I J N ni c s no w kd ow r2 r3 dt ot bar) (hfr : ∀ a, 131 ≤ a → a < 200 → sh a = none) (k1035 : ∀ (s1 : sM) (I1 : mI) (J1 : mJ), (∀ a, (a < 131 ∨ 200 ≤ a) → s1 a = sh a ∧ I1 a = I a ∧ J1 a = J a) → s1 131 = some (.inl (.int, 2 ^ s, 0, fun _ => none)) → s1 132 = some (.inl (.boolean, 2 ^ s, 0, fun _ => none)) → (∀ a, 133 ≤ a → a < 200 → s1 a = none) → (∀ j, j < 2 ^ s → I1 131 j = ((nxt J1 w s ni dt j : Nat) : Int) ∧ I1 132 j = ((bn (unl2 J1 w s ot no j) : Nat) : Int)) → LXf TT cl6 X mi_W_law (40 + 11) (1000 + 200 * 11) D P PX kc ks 1035 [(18, .ref 132), (17, .ref 131), (16, .int (Int32.ofInt ((2 ^ (s - ni) : Nat) : Int))), (15, .ref 130), (14, .int (Int32.ofInt ((bn ib : Nat) : Int))), (12, .ref 129), (11, .ref 128), (10, .int (Int32.ofInt ((b : Nat) : Int))), (9, .int (Int32.ofInt ((2 ^ s : Nat) : Int))), (1, .ref 0), (0, .retAddr 1), (2, .int (Int32.ofInt ((1 : Nat) : Int))), (3, .int (Int32.ofInt ((ni : Nat) : Int))), (4, .int (Int32.ofInt ((c : Nat) : Int))), (5, .ref 100), (6, .int (Int32.ofInt ((s : Nat) : Int))), (7, .ref 124), (8, .ref 125)] [] (hp s1 I1 J1)) : LXf TT cl6 X mi_W_law (40 + 11) (1000 + 200 * 11) D P PX (kc + 2) (ks + 256) 898 [(15, .ref 130), (14, .int (Int32.ofInt ((bn ib : Nat) : Int))), (12, .ref 129), (11, .ref 128), (10, .int (Int32.ofInt ((b : Nat) : Int))), (9, .int (Int32.ofInt ((2 ^ s : Nat) : Int))), (1, .ref 0), (0, .retAddr 1), (2, .int (Int32.ofInt ((1 : Nat) : Int))), (3, .int (Int32.ofInt ((ni : Nat) : Int))), (4, .int (Int32.ofInt ((c : Nat) : Int))), (5, .ref 100), (6, .int (Int32.ofInt ((s : Nat) : Int))), (7, .ref 124), (8, .ref 125)] [] (hp sh I J) := by
  have hL := hst.1
  obtain ⟨hrk, hrw, hSH, hC, hk3, h124, h125, h126, hd5, ho5, hcs, hsw⟩ := id hL
  obtain ⟨ki, kc9, kg, hni1, hnis, hsN, hN23, hs7⟩ := id hrk
  obtain ⟨⟨f, hs0, hf⟩, hr, hR⟩ := id hrw
  have hM := hSH.1
  have hp7 := pow2_7 hs7
  have hp0 := Nat.two_pow_pos s
  obtain ⟨⟨fv, hv1, hv2⟩, hv3, hv4⟩ := hst.2.1
  have hth := hst.2.2.1
  have hkb := hth.2.2.2.2.2.1
  refine lf_iconst d_W_law_898 (v := Int32.ofInt ((1 : Nat) : Int)) rfl ?_
  refine lf_iconst d_W_law_899 (v := Int32.ofInt ((2 : Nat) : Int)) rfl ?_
  refine lf_iload d_W_law_900 rfl ?_
  refine gi_imulN (a := 2) (b := c) d_W_law_902 ?_
  refine gi_ishlN (a := 1) (s := (2 * c)) d_W_law_903 (by omega) ?_
  refine gi_top (show ((1 * 2 ^ (2 * c) : Nat) : Int) = ((2 ^ (s - ni) : Nat) : Int) from by rw [Nat.one_mul, show s - ni = 2 * c by omega]) ?_
  refine lf_istore d_W_law_904 (by decide +kernel) (L2 := [(16, _), (15, _), (14, _), (12, _), (11, _), (10, _), (9, _), (1, _), (0, _), (2, _), (3, _), (4, _), (5, _), (6, _), (7, _), (8, _)]) rfl ?_
  refine lf_iload d_W_law_906 rfl ?_
  refine gi_newB_int d_W_law_908 tA_int (m := (2 ^ s)) (B := 128) (q := 131) (by omega) (by decide) (hfr 131 (by decide) (by decide)) ?_
  refine lf_astore d_W_law_910 (by decide +kernel) rfl (L2 := [(17, _), (16, _), (15, _), (14, _), (12, _), (11, _), (10, _), (9, _), (1, _), (0, _), (2, _), (3, _), (4, _), (5, _), (6, _), (7, _), (8, _)]) rfl ?_
  refine lf_iload d_W_law_912 rfl ?_
  refine gi_newB_boolean d_W_law_914 tA_boolean (m := (2 ^ s)) (B := 128) (q := 132) (by omega) (by decide) ((spt_o (by decide)).trans (hfr 132 (by decide) (by decide))) ?_
  refine lf_astore d_W_law_916 (by decide +kernel) rfl (L2 := [(18, _), (17, _), (16, _), (15, _), (14, _), (12, _), (11, _), (10, _), (9, _), (1, _), (0, _), (2, _), (3, _), (4, _), (5, _), (6, _), (7, _), (8, _)]) rfl ?_
  refine lf_iconst d_W_law_918 (v := Int32.ofInt ((0 : Nat) : Int)) rfl ?_
  refine lf_istore d_W_law_919 (by decide +kernel) (L2 := [(19, _), (18, _), (17, _), (16, _), (15, _), (14, _), (12, _), (11, _), (10, _), (9, _), (1, _), (0, _), (2, _), (3, _), (4, _), (5, _), (6, _), (7, _), (8, _)]) rfl ?_
  have hlow : ∀ a, (a < 131 ∨ 200 ≤ a) → (spt (spt sh 131 (.inl (.int, 2 ^ s, 0, fun _ => none))) 132 (.inl (.boolean, 2 ^ s, 0, fun _ => none))) a = sh a ∧ (izr (izr I 131) 132) a = I a ∧ (jzr (jzr J 131) 132) a = J a := fun a ha => ⟨(spt_o (by omega)).trans (spt_o (by omega)), (izr_o (by omega)).trans (izr_o (by omega)), (jzr_o (by omega)).trans (jzr_o (by omega))⟩
  have hst2 : STq (spt (spt sh 131 (.inl (.int, 2 ^ s, 0, fun _ => none))) 132 (.inl (.boolean, 2 ^ s, 0, fun _ => none))) (izr (izr I 131) 132) (jzr (jzr J 131) 132) N ni c s no w kd ow r2 r3 dt ot bar := ST_N hlow hst
  refine law_h_l hx hst2 ((spt_o (by decide)).trans spt_s) spt_s (fun I1 hb => ?_) (2 ^ s) 0 _ (by omega) ⟨fun a _ _ => rfl, fun j hj => absurd hj (Nat.not_lt_zero j), fun j _ => ⟨congrFun (izr_o (by decide)) j |>.trans izr_s, izr_s⟩⟩
  exact k1035 _ I1 _ (fun a ha => ⟨(hlow a ha).1, (hb.1 a (by omega) (by omega)).trans (hlow a ha).2.1, (hlow a ha).2.2⟩) ((spt_o (by decide)).trans spt_s) spt_s (fun a h1 h2 => (spt_o (by omega)).trans ((spt_o (by omega)).trans (hfr a (by omega) h2))) hb.2.1
theorem law_i_1 (hx : HX X L9 xs) {N ni c s no w : Nat} {kd : Nat → Int} {ow r2 r3 dt : Nat → Nat} {ot : Nat → Nat → Nat} {b : Nat} {ib : Bool} {bar : Int} (hst : STq sh I J N ni c s no w kd ow r2 r3 dt ot bar) (k1071 : LXf TT cl6 X mi_W_law (40 + 11) (1000 + 200 * 11) D P PX kc ks 1071 [(19, .int (Int32.ofInt ((fst r2 s ni : Nat) : Int))), (18, .ref 132), (17, .ref 131), (16, .int (Int32.ofInt ((2 ^ (s - ni) : Nat) : Int))), (15, .ref 130), (14, .int (Int32.ofInt ((bn ib : Nat) : Int))), (12, .ref 129), (11, .ref 128), (10, .int (Int32.ofInt ((b : Nat) : Int))), (9, .int (Int32.ofInt ((2 ^ s : Nat) : Int))), (1, .ref 0), (0, .retAddr 1), (2, .int (Int32.ofInt ((1 : Nat) : Int))), (3, .int (Int32.ofInt ((ni : Nat) : Int))), (4, .int (Int32.ofInt ((c : Nat) : Int))), (5, .ref 100), (6, .int (Int32.ofInt ((s : Nat) : Int))), (7, .ref 124), (8, .ref 125)] [] (hp sh I J)) : ∀ (d j : Nat), j + d = s - ni → LXf TT cl6 X mi_W_law (40 + 11) (1000 + 200 * 11) D P PX kc ks 1041 [(20, .int (Int32.ofInt ((ni + j : Nat) : Int))), (19, .int (Int32.ofInt ((orS (fun t => r2 (ni + t)) j : Nat) : Int))), (18, .ref 132), (17, .ref 131), (16, .int (Int32.ofInt ((2 ^ (s - ni) : Nat) : Int))), (15, .ref 130), (14, .int (Int32.ofInt ((bn ib : Nat) : Int))), (12, .ref 129), (11, .ref 128), (10, .int (Int32.ofInt ((b : Nat) : Int))), (9, .int (Int32.ofInt ((2 ^ s : Nat) : Int))), (1, .ref 0), (0, .retAddr 1), (2, .int (Int32.ofInt ((1 : Nat) : Int))), (3, .int (Int32.ofInt ((ni : Nat) : Int))), (4, .int (Int32.ofInt ((c : Nat) : Int))), (5, .ref 100), (6, .int (Int32.ofInt ((s : Nat) : Int))), (7, .ref 124), (8, .ref 125)] [] (hp sh I J) := by
  have hL := hst.1
  obtain ⟨hrk, hrw, hSH, hC, hk3, h124, h125, h126, hd5, ho5, hcs, hsw⟩ := id hL
  obtain ⟨ki, kc9, kg, hni1, hnis, hsN, hN23, hs7⟩ := id hrk
  obtain ⟨⟨f, hs0, hf⟩, hr, hR⟩ := id hrw
  have hM := hSH.1
  have hp7 := pow2_7 hs7
  have hp0 := Nat.two_pow_pos s
  obtain ⟨⟨fv, hv1, hv2⟩, hv3, hv4⟩ := hst.2.1
  have hth := hst.2.2.1
  have hkb := hth.2.2.2.2.2.1
  intro d
  induction d with
  | zero =>
    intro j hd
    have hj : j = s - ni := by omega
    refine lf_iload d_W_law_1041 rfl ?_
    refine lf_iload d_W_law_1043 rfl ?_
    refine gi_icmp_ge d_W_law_1045 (tgt := 1071) (by decide) (by omega) (fun hb1045 => ?_) (fun hb1045 => False.elim (by omega))
    refine lf_sub [1, 2, 3, 4, 5, 6, 7, 8, 9, 10, 11, 12, 13, 14, 15, 16, 17, 18, 19] rfl ?_
    subst hj
    exact k1071
  | succ d ih =>
    intro j hd
    have e2 := (hR (ni + j) (by omega)).2.2.1
    refine lf_iload d_W_law_1041 rfl ?_
    refine lf_iload d_W_law_1043 rfl ?_
    refine gi_icmp_ge d_W_law_1045 (tgt := 1071) (by decide) (by omega) (fun hb1045 => False.elim (by omega)) (fun hb1045 => ?_)
    refine lf_iload d_W_law_1048 rfl ?_
    refine lf_aload d_W_law_1050 rfl rfl ?_
    refine lf_iload d_W_law_1052 rfl ?_
    refine gi_aald (kd := 0) d_W_law_1054 rfl hs0 (by omega) (hf (ni + j) (by omega)) ?_
    refine lf_iconst d_W_law_1055 (v := Int32.ofInt ((2 : Nat) : Int)) rfl ?_
    refine gi_ialoadN d_W_law_1056 (hr (ni + j) (by omega)) (by omega) ?_
    refine gi_top e2 ?_
    refine lf_iload d_W_law_1057 rfl ?_
    refine lf_iload_n d_W_law_1059 rfl rfl ?_
    refine gi_isubN (a := (ni + j)) (b := ni) d_W_law_1060 (by omega) ?_
    refine gi_top (show ((ni + j - ni : Nat) : Int) = ((j : Nat) : Int) from by omega) ?_
    refine gi_ishlN (a := (r2 (ni + j))) (s := j) d_W_law_1061 (by omega) ?_
    refine gi_iorN (a := (orS (fun t => r2 (ni + t)) j)) (b := ((r2 (ni + j)) * 2 ^ j)) d_W_law_1062 ?_
    refine lf_istore d_W_law_1063 (by decide +kernel) (L2 := [(19, _), (20, _), (18, _), (17, _), (16, _), (15, _), (14, _), (12, _), (11, _), (10, _), (9, _), (1, _), (0, _), (2, _), (3, _), (4, _), (5, _), (6, _), (7, _), (8, _)]) rfl ?_
    refine gi_iincN d_W_law_1065 rfl (by decide +kernel) (L2 := [(20, _), (19, _), (18, _), (17, _), (16, _), (15, _), (14, _), (12, _), (11, _), (10, _), (9, _), (1, _), (0, _), (2, _), (3, _), (4, _), (5, _), (6, _), (7, _), (8, _)]) rfl ?_
    refine lf_goto d_W_law_1068 (tgt := 1041) (by decide) ?_
    exact ih (j + 1) (by omega)
theorem law_i_2 (hx : HX X L9 xs) {ni c s : Nat} {r2 : Nat → Nat} {b : Nat} {ib : Bool} (hs7 : s ≤ 7) (h136 : sh 136 = some (.inl (.int, 2 ^ (s - ni), 0, fun _ => none))) (k1119 : ∀ I1 : mI, (∀ a, ¬ a = 136 → I1 a = I a) ∧ (∀ j, j < 2 ^ (s - ni) → I1 136 j = -1) → LXf TT cl6 X mi_W_law (40 + 11) (1000 + 200 * 11) D P PX kc ks 1119 [(23, .ref 136), (22, .ref 135), (21, .ref 134), (20, .ref 133), (19, .int (Int32.ofInt ((fst r2 s ni : Nat) : Int))), (18, .ref 132), (17, .ref 131), (16, .int (Int32.ofInt ((2 ^ (s - ni) : Nat) : Int))), (15, .ref 130), (14, .int (Int32.ofInt ((bn ib : Nat) : Int))), (12, .ref 129), (11, .ref 128), (10, .int (Int32.ofInt ((b : Nat) : Int))), (9, .int (Int32.ofInt ((2 ^ s : Nat) : Int))), (1, .ref 0), (0, .retAddr 1), (2, .int (Int32.ofInt ((1 : Nat) : Int))), (3, .int (Int32.ofInt ((ni : Nat) : Int))), (4, .int (Int32.ofInt ((c : Nat) : Int))), (5, .ref 100), (6, .int (Int32.ofInt ((s : Nat) : Int))), (7, .ref 124), (8, .ref 125)] [] (hp sh I1 J)) : ∀ (d k : Nat) (I1 : mI), k + d = 2 ^ (s - ni) → (∀ a, ¬ a = 136 → I1 a = I a) ∧ (∀ j, j < k → I1 136 j = -1) → LXf TT cl6 X mi_W_law (40 + 11) (1000 + 200 * 11) D P PX kc ks 1100 [(24, .int (Int32.ofInt ((k : Nat) : Int))), (23, .ref 136), (22, .ref 135), (21, .ref 134), (20, .ref 133), (19, .int (Int32.ofInt ((fst r2 s ni : Nat) : Int))), (18, .ref 132), (17, .ref 131), (16, .int (Int32.ofInt ((2 ^ (s - ni) : Nat) : Int))), (15, .ref 130), (14, .int (Int32.ofInt ((bn ib : Nat) : Int))), (12, .ref 129), (11, .ref 128), (10, .int (Int32.ofInt ((b : Nat) : Int))), (9, .int (Int32.ofInt ((2 ^ s : Nat) : Int))), (1, .ref 0), (0, .retAddr 1), (2, .int (Int32.ofInt ((1 : Nat) : Int))), (3, .int (Int32.ofInt ((ni : Nat) : Int))), (4, .int (Int32.ofInt ((c : Nat) : Int))), (5, .ref 100), (6, .int (Int32.ofInt ((s : Nat) : Int))), (7, .ref 124), (8, .ref 125)] [] (hp sh I1 J) := by
  have hp7 := pow2_7 (s := s - ni) (by omega)
  intro d
  induction d with
  | zero =>
    intro k I1 hd hb
    have hk : k = 2 ^ (s - ni) := by omega
    refine lf_iload d_W_law_1100 rfl ?_
    refine lf_iload d_W_law_1102 rfl ?_
    refine gi_icmp_ge d_W_law_1104 (tgt := 1119) (by decide) (by omega) (fun hb1104 => ?_) (fun hb1104 => False.elim (by omega))
    refine lf_sub [1, 2, 3, 4, 5, 6, 7, 8, 9, 10, 11, 12, 13, 14, 15, 16, 17, 18, 19, 20, 21, 22, 23] rfl ?_
    subst hk
    exact k1119 I1 hb
  | succ d ih =>
    intro k I1 hd hb
    refine lf_iload d_W_law_1100 rfl ?_
    refine lf_iload d_W_law_1102 rfl ?_
    refine gi_icmp_ge d_W_law_1104 (tgt := 1119) (by decide) (by omega) (fun hb1104 => False.elim (by omega)) (fun hb1104 => ?_)
    refine lf_aload d_W_law_1107 rfl rfl ?_
    refine lf_iload d_W_law_1109 rfl ?_
    refine lf_iconst d_W_law_1111 (v := Int32.ofInt (-1)) rfl ?_
    refine gi_iastoreN d_W_law_1112 h136 (by omega) ?_
    refine gi_iincN d_W_law_1113 rfl (by decide +kernel) (L2 := [(24, _), (23, _), (22, _), (21, _), (20, _), (19, _), (18, _), (17, _), (16, _), (15, _), (14, _), (12, _), (11, _), (10, _), (9, _), (1, _), (0, _), (2, _), (3, _), (4, _), (5, _), (6, _), (7, _), (8, _)]) rfl ?_
    refine lf_goto d_W_law_1116 (tgt := 1100) (by decide) ?_
    refine ih (k + 1) _ (by omega) ⟨fun a ha => (ipt_o ha).trans (hb.1 a ha), fun j hj => ?_⟩
    rw [ipt_s]
    by_cases e : j = k
    · rw [if_pos e]
    · rw [if_neg e]
      exact hb.2 j (by omega)
theorem law_i (hx : HX X L9 xs) {N ni c s no w : Nat} {kd : Nat → Int} {ow r2 r3 dt : Nat → Nat} {ot : Nat → Nat → Nat} {b : Nat} {ib : Bool} {bar : Int} (hst : STq sh I J N ni c s no w kd ow r2 r3 dt ot bar) (hfr : ∀ a, 133 ≤ a → a < 200 → sh a = none) (k1119 : ∀ (s1 : sM) (I1 : mI) (J1 : mJ), (∀ a, (a < 133 ∨ 200 ≤ a) → s1 a = sh a ∧ I1 a = I a ∧ J1 a = J a) → s1 133 = some (.inl (.int, 2 ^ (s - ni) + 1, 0, fun _ => none)) → s1 134 = some (.inl (.int, 2 ^ (s - ni), 0, fun _ => none)) → s1 135 = some (.inl (.int, 2 ^ (s - ni), 0, fun _ => none)) → s1 136 = some (.inl (.int, 2 ^ (s - ni), 0, fun _ => none)) → (∀ a, 137 ≤ a → a < 200 → s1 a = none) → (∀ j, I1 133 j = 0 ∧ I1 134 j = 0 ∧ I1 135 j = 0) → (∀ j, j < 2 ^ (s - ni) → I1 136 j = -1) → LXf TT cl6 X mi_W_law (40 + 11) (1000 + 200 * 11) D P PX kc ks 1119 [(23, .ref 136), (22, .ref 135), (21, .ref 134), (20, .ref 133), (19, .int (Int32.ofInt ((fst r2 s ni : Nat) : Int))), (18, .ref 132), (17, .ref 131), (16, .int (Int32.ofInt ((2 ^ (s - ni) : Nat) : Int))), (15, .ref 130), (14, .int (Int32.ofInt ((bn ib : Nat) : Int))), (12, .ref 129), (11, .ref 128), (10, .int (Int32.ofInt ((b : Nat) : Int))), (9, .int (Int32.ofInt ((2 ^ s : Nat) : Int))), (1, .ref 0), (0, .retAddr 1), (2, .int (Int32.ofInt ((1 : Nat) : Int))), (3, .int (Int32.ofInt ((ni : Nat) : Int))), (4, .int (Int32.ofInt ((c : Nat) : Int))), (5, .ref 100), (6, .int (Int32.ofInt ((s : Nat) : Int))), (7, .ref 124), (8, .ref 125)] [] (hp s1 I1 J1)) : LXf TT cl6 X mi_W_law (40 + 11) (1000 + 200 * 11) D P PX (kc + 4) (ks + 520) 1035 [(18, .ref 132), (17, .ref 131), (16, .int (Int32.ofInt ((2 ^ (s - ni) : Nat) : Int))), (15, .ref 130), (14, .int (Int32.ofInt ((bn ib : Nat) : Int))), (12, .ref 129), (11, .ref 128), (10, .int (Int32.ofInt ((b : Nat) : Int))), (9, .int (Int32.ofInt ((2 ^ s : Nat) : Int))), (1, .ref 0), (0, .retAddr 1), (2, .int (Int32.ofInt ((1 : Nat) : Int))), (3, .int (Int32.ofInt ((ni : Nat) : Int))), (4, .int (Int32.ofInt ((c : Nat) : Int))), (5, .ref 100), (6, .int (Int32.ofInt ((s : Nat) : Int))), (7, .ref 124), (8, .ref 125)] [] (hp sh I J) := by
  have hL := hst.1
  obtain ⟨hrk, hrw, hSH, hC, hk3, h124, h125, h126, hd5, ho5, hcs, hsw⟩ := id hL
  obtain ⟨ki, kc9, kg, hni1, hnis, hsN, hN23, hs7⟩ := id hrk
  obtain ⟨⟨f, hs0, hf⟩, hr, hR⟩ := id hrw
  have hM := hSH.1
  have hp7 := pow2_7 hs7
  have hp0 := Nat.two_pow_pos s
  obtain ⟨⟨fv, hv1, hv2⟩, hv3, hv4⟩ := hst.2.1
  have hth := hst.2.2.1
  have hkb := hth.2.2.2.2.2.1
  have hp8 := pow2_7 (s := s - ni) (by omega)
  refine lf_iconst d_W_law_1035 (v := Int32.ofInt ((0 : Nat) : Int)) rfl ?_
  refine lf_istore d_W_law_1036 (by decide +kernel) (L2 := [(19, _), (18, _), (17, _), (16, _), (15, _), (14, _), (12, _), (11, _), (10, _), (9, _), (1, _), (0, _), (2, _), (3, _), (4, _), (5, _), (6, _), (7, _), (8, _)]) rfl ?_
  refine lf_iload_n d_W_law_1038 rfl rfl ?_
  refine lf_istore d_W_law_1039 (by decide +kernel) (L2 := [(20, _), (19, _), (18, _), (17, _), (16, _), (15, _), (14, _), (12, _), (11, _), (10, _), (9, _), (1, _), (0, _), (2, _), (3, _), (4, _), (5, _), (6, _), (7, _), (8, _)]) rfl ?_
  refine law_i_1 hx hst ?_ (s - ni) 0 (by omega)
  refine lf_room (kc1 := kc + 1 + 1 + 1 + 1) (ks1 := ks + 128 + 128 + 128 + 129) (by omega) (by omega) ?_
  refine lf_iload d_W_law_1071 rfl ?_
  refine lf_iconst d_W_law_1073 (v := Int32.ofInt ((1 : Nat) : Int)) rfl ?_
  refine gi_iaddN (a := (2 ^ (s - ni))) (b := 1) d_W_law_1074 ?_
  refine gi_newB_int d_W_law_1075 tA_int (m := ((2 ^ (s - ni)) + 1)) (B := 129) (q := 133) (by omega) (by decide) (hfr 133 (by decide) (by decide)) ?_
  refine lf_astore d_W_law_1077 (by decide +kernel) rfl (L2 := [(20, _), (19, _), (18, _), (17, _), (16, _), (15, _), (14, _), (12, _), (11, _), (10, _), (9, _), (1, _), (0, _), (2, _), (3, _), (4, _), (5, _), (6, _), (7, _), (8, _)]) rfl ?_
  refine lf_iload d_W_law_1079 rfl ?_
  refine gi_newB_int d_W_law_1081 tA_int (m := (2 ^ (s - ni))) (B := 128) (q := 134) (by omega) (by decide) ((spt_o (by decide)).trans (hfr 134 (by decide) (by decide))) ?_
  refine lf_astore d_W_law_1083 (by decide +kernel) rfl (L2 := [(21, _), (20, _), (19, _), (18, _), (17, _), (16, _), (15, _), (14, _), (12, _), (11, _), (10, _), (9, _), (1, _), (0, _), (2, _), (3, _), (4, _), (5, _), (6, _), (7, _), (8, _)]) rfl ?_
  refine lf_iload d_W_law_1085 rfl ?_
  refine gi_newB_int d_W_law_1087 tA_int (m := (2 ^ (s - ni))) (B := 128) (q := 135) (by omega) (by decide) ((spt_o (by decide)).trans ((spt_o (by decide)).trans (hfr 135 (by decide) (by decide)))) ?_
  refine lf_astore d_W_law_1089 (by decide +kernel) rfl (L2 := [(22, _), (21, _), (20, _), (19, _), (18, _), (17, _), (16, _), (15, _), (14, _), (12, _), (11, _), (10, _), (9, _), (1, _), (0, _), (2, _), (3, _), (4, _), (5, _), (6, _), (7, _), (8, _)]) rfl ?_
  refine lf_iload d_W_law_1091 rfl ?_
  refine gi_newB_int d_W_law_1093 tA_int (m := (2 ^ (s - ni))) (B := 128) (q := 136) (by omega) (by decide) ((spt_o (by decide)).trans ((spt_o (by decide)).trans ((spt_o (by decide)).trans (hfr 136 (by decide) (by decide))))) ?_
  refine lf_astore d_W_law_1095 (by decide +kernel) rfl (L2 := [(23, _), (22, _), (21, _), (20, _), (19, _), (18, _), (17, _), (16, _), (15, _), (14, _), (12, _), (11, _), (10, _), (9, _), (1, _), (0, _), (2, _), (3, _), (4, _), (5, _), (6, _), (7, _), (8, _)]) rfl ?_
  refine lf_iconst d_W_law_1097 (v := Int32.ofInt ((0 : Nat) : Int)) rfl ?_
  refine lf_istore d_W_law_1098 (by decide +kernel) (L2 := [(24, _), (23, _), (22, _), (21, _), (20, _), (19, _), (18, _), (17, _), (16, _), (15, _), (14, _), (12, _), (11, _), (10, _), (9, _), (1, _), (0, _), (2, _), (3, _), (4, _), (5, _), (6, _), (7, _), (8, _)]) rfl ?_
  refine law_i_2 hx hs7 spt_s (fun I1 hb => ?_) (2 ^ (s - ni)) 0 _ (by omega) ⟨fun a _ => rfl, fun j hj => absurd hj (Nat.not_lt_zero j)⟩
  refine k1119 _ I1 _ (fun a ha => ⟨(spt_o (by omega)).trans ((spt_o (by omega)).trans ((spt_o (by omega)).trans (spt_o (by omega)))), (hb.1 a (by omega)).trans ((izr_o (by omega)).trans ((izr_o (by omega)).trans ((izr_o (by omega)).trans (izr_o (by omega))))), (jzr_o (by omega)).trans ((jzr_o (by omega)).trans ((jzr_o (by omega)).trans (jzr_o (by omega))))⟩) ?_ ?_ ?_ spt_s (fun a h1 h2 => (spt_o (by omega)).trans ((spt_o (by omega)).trans ((spt_o (by omega)).trans ((spt_o (by omega)).trans (hfr a (by omega) h2))))) (fun j => ?_) hb.2
  · rw [spt_o (by decide), spt_o (by decide), spt_o (by decide)]
    exact spt_s
  · rw [spt_o (by decide), spt_o (by decide)]
    exact spt_s
  · rw [spt_o (by decide)]
    exact spt_s
  · rw [hb.1 133 (by decide), hb.1 134 (by decide), hb.1 135 (by decide), izr_o (by decide), izr_o (by decide), izr_o (by decide), izr_s, izr_o (by decide), izr_o (by decide), izr_s, izr_o (by decide), izr_s]
    exact ⟨rfl, rfl, rfl⟩
end LA5
