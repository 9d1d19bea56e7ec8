section SM1
variable {X : XT} {ρ : Nat → Int32} {t9 : Nat}
theorem i32_full (x : Int32) : sIn sIv x.toInt := by
  have h1 := x.le_toInt
  have h2 := x.toInt_lt
  exact ⟨by show (-2147483648 : Int) ≤ _; omega, by show _ ≤ (2147483647 : Int); omega, fun e he => by cases he⟩
theorem rowW_ok (h : HX X ρ t9) : ∀ m pc f, rowW m pc = some f → opOK TT cl6 X mis en ρ m pc f := by
  intro m pc f e
  unfold rowW at e
  cases hm : Nat.beq m 180 with
  | true => rw [hm] at e; rw [Nat.eq_of_beq_eq_true hm]; exact ok_180 h pc f e
  | false => rw [hm] at e; cases e
theorem snos_v {ρ1 ρ2 : Nat → Int32} {v : sV} (h : (match v with | .inl _ => true | _ => false) = true) : sd ρ1 v = sd ρ2 v := by
  rcases v with v | v
  · rfl
  · cases h
theorem snos_u {ρ1 ρ2 : Nat → Int32} : ∀ {us : List (Nat × sV)}, us.all (fun q => match q.2 with | .inl _ => true | _ => false) = true → sfi ρ1 us = sfi ρ2 us ∧ sfl ρ1 us = sfl ρ2 us ∧ sfq ρ1 us = sfq ρ2 us := by
  intro us
  induction us with
  | nil => intro _; exact ⟨rfl, rfl, rfl⟩
  | cons q r ih =>
    intro h
    rw [List.all_cons, Bool.and_eq_true] at h
    obtain ⟨h1, h2, h3⟩ := ih h.2
    have e := snos_v (ρ1 := ρ1) (ρ2 := ρ2) h.1
    unfold sfi sfl sfq
    rw [h1, h2, h3, e]
    exact ⟨rfl, rfl, rfl⟩
theorem snos_ok {ρ1 ρ2 : Nat → Int32} {M : List sE} (h : snos M = true) : sdM ρ1 M = sdM ρ2 M := by
  unfold sdM
  refine List.map_congr_left (fun e he => ?_)
  have h1 := List.all_eq_true.mp h e he
  rcases e with ⟨c, fs⟩ | ⟨ty, n, k, us⟩
  · show Sum.inr (c, fs.map (sd ρ1)) = Sum.inr (c, fs.map (sd ρ2))
    have : fs.map (sd ρ1) = fs.map (sd ρ2) := List.map_congr_left (fun v hv => snos_v (List.all_eq_true.mp h1 v hv))
    rw [this]
  · obtain ⟨a1, a2, a3⟩ := snos_u (ρ1 := ρ1) (ρ2 := ρ2) (us := us) h1
    match k with
    | 0 => show Sum.inl _ = Sum.inl _; rw [a1]
    | 1 => show Sum.inl _ = Sum.inl _; rw [a2]
    | 2 => rfl
    | k + 3 => show Sum.inl _ = Sum.inl _; rw [a3]
theorem sGw_sat : sSat ρ sGw := by
  intro k b hk
  have hb : b = sIv := by
    have := List.mem_of_getElem? hk
    simp [sGw] at this
    exact this
  subst hb
  exact i32_full _
theorem word_ev {d1 i : Nat} {w : Int32} {M : List sE} (h : HX X ρ t9) (hs : swOK d1 i w M = true) : EV TT cl6 X (mis 180) (40 + d1) (1000 + 200 * d1) 0 0 [.ref i, .int w, .int (ρ 1), .int (ρ 16), .int (ρ 17)] (sdM ρ M) (fun v M1 => v = some (.int 0) ∧ M1 = sdM ρ M) (fun _ _ => False) := by
  unfold swOK at hs
  split at hs
  · rename_i G1 z M1 kc ks hfx
    simp only [Bool.and_eq_true] at hs
    obtain ⟨⟨⟨s1, s2⟩, s3⟩, s4⟩ := hs
    cases of_decide_eq_true s1
    cases bqM_ok s2
    cases Nat.eq_of_beq_eq_true s3
    cases Nat.eq_of_beq_eq_true s4
    have g := fx_ok (rowW_ok h) _ _ _ _ _ _ _ _ _ hfx sGw_sat (fun v M1 => v = some (.int 0) ∧ M1 = sdM ρ M) (fun _ _ => False) (fun lf hlf _ => by
      rcases List.mem_cons.mp hlf with rfl | hlf
      · exact ⟨rfl, rfl⟩
      · cases hlf)
    refine ev_of (hx_ok h) (by decide +kernel) (by show 5 ≤ (mis 180).2.2.1; decide +kernel) ?_
    exact g
  · cases hs
theorem bts_ok {G : sG} {bi : sV} (hG : sSat ρ G) (h : sbts G bi = true) : ∃ N : Nat, N ≤ 64 ∧ sd ρ bi = .int (ρ 1) ∧ (1 : Int32) <<< (ρ 1 &&& 31) = Int32.ofNat N := by
  unfold sbts at h
  split at h
  · split at h
    · rename_i a b cx hk
      rw [Bool.and_eq_true] at h
      have h1 := of_decide_eq_true h.1
      have h2 := of_decide_eq_true h.2
      have h3 := hG 1 _ hk
      have h4 := h3.1
      have h5 := h3.2.1
      dsimp only at h4 h5
      have e : (ρ 1).toInt = 1 ∨ (ρ 1).toInt = 2 ∨ (ρ 1).toInt = 3 ∨ (ρ 1).toInt = 4 ∨ (ρ 1).toInt = 5 ∨ (ρ 1).toInt = 6 := by omega
      have key : ∀ k : Int, (ρ 1).toInt = k → ρ 1 = Int32.ofInt k := fun k hk => by rw [← hk, Int32.ofInt_toInt]
      rcases e with e | e | e | e | e | e <;> (have e1 := key _ e; rw [e1])
      · exact ⟨2, by decide, by rw [← e1]; rfl, by decide⟩
      · exact ⟨4, by decide, by rw [← e1]; rfl, by decide⟩
      · exact ⟨8, by decide, by rw [← e1]; rfl, by decide⟩
      · exact ⟨16, by decide, by rw [← e1]; rfl, by decide⟩
      · exact ⟨32, by decide, by rw [← e1]; rfl, by decide⟩
      · exact ⟨64, by decide, by rw [← e1]; rfl, by decide⟩
    · cases h
  · cases h
/-- the loop of the reference's areSame, over polynomials of zeros -/
theorem same_loop {fr lo fr1 lo1 : Nat} {P : Option Value → mH → Prop} {PX : String → mH → Prop} {kc ks i N : Nat} {b : Int32} {M : mH} {fs : List Value} (hN : N ≤ 64) (hb : (1 : Int32) <<< (b &&& 31) = Int32.ofNat N) (hM : M[i]? = some (.inr (2, fs))) (hfr : fr1 + 1 ≤ fr ∧ 8 + ((mis 180).2.2.1 + 11) + lo1 ≤ lo)
    (hw : ∀ (w x y : Int32), w = 0 ∨ w = 1 → EV TT cl6 X (mis 180) fr1 lo1 0 0 [.ref i, .int w, .int b, .int x, .int y] M (fun v M1 => v = some (.int 0) ∧ M1 = M) (fun _ _ => False))
    (hk : ∀ pc, decode (mis 199).2.1 pc = .ok (.invokevirtual 372, 3) → kCall TT cl6 X (mis 199) pc 3 (mis 180) 2 5 2)
    (k88 : LX TT cl6 X (mis 199) fr lo P PX kc ks 88 [(2, .int 1), (0, .ref i), (1, .int b)] [] M) :
    LX TT cl6 X (mis 199) fr lo P PX kc ks 29 [(3, .int 0), (2, .int 1), (0, .ref i), (1, .int b)] [] M := by
  have inner : ∀ (x : Int32) (c n : Nat), n + c = N → LX TT cl6 X (mis 199) fr lo P PX kc ks 82 [(3, .int x), (2, .int 1), (0, .ref i), (1, .int b)] [] M →
      LX TT cl6 X (mis 199) fr lo P PX kc ks 39 [(4, .int (Int32.ofNat n)), (3, .int x), (2, .int 1), (0, .ref i), (1, .int b)] [] M := by
    intro x c
    induction c with
    | zero =>
      intro n hn k82
      refine lx_iload (i := 4) (by decide +kernel) rfl ?_
      refine lx_iconst (n := 1) (v := 1) (by decide +kernel) rfl ?_
      refine lx_iload_n (n := 1) (i := 1) (by decide +kernel) rfl rfl ?_
      refine lx_ishl (by decide +kernel) ?_
      rw [hb]
      refine lx_icmp_ge (tgt := 82) (off := 38) (by decide +kernel) (by decide) (fun _ => ?_) (fun q => ?_)
      · exact lx_sub [1, 2, 3, 4] rfl k82
      · exact absurd ((Int32.ofNat_le_ofNat (by omega) (by omega)).mpr (by omega)) q
    | succ c ih =>
      intro n hn k82
      have k39 := ih (n + 1) (by omega) k82
      refine lx_iload (i := 4) (by decide +kernel) rfl ?_
      refine lx_iconst (n := 1) (v := 1) (by decide +kernel) rfl ?_
      refine lx_iload_n (n := 1) (i := 1) (by decide +kernel) rfl rfl ?_
      refine lx_ishl (by decide +kernel) ?_
      rw [hb]
      refine lx_icmp_ge (tgt := 82) (off := 38) (by decide +kernel) (by decide) (fun q => ?_) (fun _ => ?_)
      · exact absurd ((Int32.ofNat_le_ofNat (by omega) (by omega)).mp q) (by omega)
      refine lx_iload_n (n := 2) (i := 2) (by decide +kernel) rfl rfl ?_
      refine lx_aload_n (n := 0) (i := 0) (by decide +kernel) rfl rfl rfl ?_
      refine lx_iconst (n := 0) (v := 0) (by decide +kernel) rfl ?_
      refine lx_iload_n (n := 1) (i := 1) (by decide +kernel) rfl rfl ?_
      refine lx_iload_n (n := 3) (i := 3) (by decide +kernel) rfl rfl ?_
      refine lx_iload (i := 4) (by decide +kernel) rfl ?_
      have h1 := hk 54 (by decide +kernel) fr lo fr1 lo1 P PX _ _ kc ks 0 0 [(4, .int (Int32.ofNat n)), (3, .int x), (2, .int 1), (0, .ref i), (1, .int b)] [.int 1] M [.ref i, .int 0, .int b, .int x, .int (Int32.ofNat n)] rfl (fun _ => ⟨i, fs, _, rfl, hM⟩) (fun q => by cases q) (fun q => by cases q) (hw 0 x (Int32.ofNat n) (Or.inl rfl)) hfr (by decide) (fun _ _ q => q.elim) (fun v M1 q => by
        obtain ⟨rfl, rfl⟩ := q
        refine lx_aload_n (n := 0) (i := 0) (by decide +kernel) rfl rfl rfl ?_
        refine lx_iconst (n := 1) (v := 1) (by decide +kernel) rfl ?_
        refine lx_iload_n (n := 1) (i := 1) (by decide +kernel) rfl rfl ?_
        refine lx_iload_n (n := 3) (i := 3) (by decide +kernel) rfl rfl ?_
        refine lx_iload (i := 4) (by decide +kernel) rfl ?_
        have h2 := hk 63 (by decide +kernel) fr lo fr1 lo1 P PX _ _ kc ks 0 0 [(4, .int (Int32.ofNat n)), (3, .int x), (2, .int 1), (0, .ref i), (1, .int b)] [.int 0, .int 1] M1 [.ref i, .int 1, .int b, .int x, .int (Int32.ofNat n)] rfl (fun _ => ⟨i, fs, _, rfl, hM⟩) (fun q => by cases q) (fun q => by cases q) (hw 1 x (Int32.ofNat n) (Or.inr rfl)) hfr (by decide) (fun _ _ q => q.elim) (fun v M2 q => by
          obtain ⟨rfl, rfl⟩ := q
          refine lx_icmp_ne (tgt := 73) (off := 7) (by decide +kernel) (by decide) (fun q => absurd rfl q) (fun _ => ?_)
          refine lx_iconst (n := 1) (v := 1) (by decide +kernel) rfl ?_
          refine lx_goto (tgt := 74) (off := 4) (by decide +kernel) (by decide) ?_
          refine lx_iand (by decide +kernel) ?_
          refine lx_istore_n (n := 2) (i := 2) (L2 := [(2, .int 1), (4, .int (Int32.ofNat n)), (3, .int x), (0, .ref i), (1, .int b)]) (by decide +kernel) rfl (by decide +kernel) rfl ?_
          refine lx_iinc (n := 1) (i := 4) (v := Int32.ofNat (n + 1)) (L2 := [(4, .int (Int32.ofNat (n + 1))), (2, .int 1), (3, .int x), (0, .ref i), (1, .int b)]) (by decide +kernel) rfl (by rw [Int32.ofNat_add]; rfl) (by decide +kernel) rfl ?_
          refine lx_goto (tgt := 39) (off := -40) (by decide +kernel) (by decide) ?_
          exact lx_sub [0, 2, 1, 3, 4] rfl k39)
        exact lx_room (by omega) (by omega) h2)
      exact lx_room (by omega) (by omega) h1
  have outer : ∀ (c n : Nat), n + c = N → LX TT cl6 X (mis 199) fr lo P PX kc ks 29 [(3, .int (Int32.ofNat n)), (2, .int 1), (0, .ref i), (1, .int b)] [] M := by
    intro c
    induction c with
    | zero =>
      intro n hn
      refine lx_iload_n (n := 3) (i := 3) (by decide +kernel) rfl rfl ?_
      refine lx_iconst (n := 1) (v := 1) (by decide +kernel) rfl ?_
      refine lx_iload_n (n := 1) (i := 1) (by decide +kernel) rfl rfl ?_
      refine lx_ishl (by decide +kernel) ?_
      rw [hb]
      refine lx_icmp_ge (tgt := 88) (off := 55) (by decide +kernel) (by decide) (fun _ => ?_) (fun q => ?_)
      · exact lx_sub [1, 2, 3] rfl k88
      · exact absurd ((Int32.ofNat_le_ofNat (by omega) (by omega)).mpr (by omega)) q
    | succ c ih =>
      intro n hn
      refine lx_iload_n (n := 3) (i := 3) (by decide +kernel) rfl rfl ?_
      refine lx_iconst (n := 1) (v := 1) (by decide +kernel) rfl ?_
      refine lx_iload_n (n := 1) (i := 1) (by decide +kernel) rfl rfl ?_
      refine lx_ishl (by decide +kernel) ?_
      rw [hb]
      refine lx_icmp_ge (tgt := 88) (off := 55) (by decide +kernel) (by decide) (fun q => ?_) (fun _ => ?_)
      · exact absurd ((Int32.ofNat_le_ofNat (by omega) (by omega)).mp q) (by omega)
      refine lx_iconst (n := 0) (v := 0) (by decide +kernel) rfl ?_
      refine lx_istore (i := 4) (L2 := [(4, .int 0), (3, .int (Int32.ofNat n)), (2, .int 1), (0, .ref i), (1, .int b)]) (by decide +kernel) (by decide +kernel) rfl ?_
      refine inner (Int32.ofNat n) N 0 (by omega) ?_
      refine lx_iinc (n := 1) (i := 3) (v := Int32.ofNat (n + 1)) (L2 := [(3, .int (Int32.ofNat (n + 1))), (2, .int 1), (0, .ref i), (1, .int b)]) (by decide +kernel) rfl (by rw [Int32.ofNat_add]; rfl) (by decide +kernel) rfl ?_
      refine lx_goto (tgt := 29) (off := -56) (by decide +kernel) (by decide) ?_
      exact ih (n + 1) (by omega)
  exact outer N 0 (by omega)
theorem same_ok (h : HX X ρ t9) (hxy : ∀ x y : Int32, ∃ ρ1 : Nat → Int32, HX X ρ1 t9 ∧ ρ1 1 = ρ 1 ∧ ρ1 16 = x ∧ ρ1 17 = y) (hk : ∀ pc, decode (mis 199).2.1 pc = .ok (.invokevirtual 372, 3) → kCall TT cl6 X (mis 199) pc 3 (mis 180) 2 5 2) : opOK TT cl6 X mis en ρ 199 29 oSame := by
  intro rec hr d G L S M r e hG P PX hall
  unfold oSame at e
  split at e
  · rename_i d1 k3 z k2 one k0 i k1 bi
    obtain ⟨e1, e2⟩ := cond_some e
    simp only [Bool.and_eq_true] at e1
    obtain ⟨⟨⟨⟨⟨⟨⟨⟨⟨⟨a1, a2⟩, a3⟩, a4⟩, a5⟩, a6⟩, a7⟩, a8⟩, a9⟩, a10⟩, a11⟩ := e1
    cases Nat.eq_of_beq_eq_true a1
    cases Nat.eq_of_beq_eq_true a2
    cases Nat.eq_of_beq_eq_true a3
    cases Nat.eq_of_beq_eq_true a4
    cases of_decide_eq_true a5
    cases of_decide_eq_true a6
    obtain ⟨N, hN, hb1, hb2⟩ := bts_ok hG a7
    obtain ⟨i1, fs, a12, hi, hM⟩ := rcv2_ok (ρ := ρ) a9 (Or.inl rfl)
    have hii : i = i1 := by
      have : [Value.ref i] = Value.ref i1 :: a12 := hi
      cases this; rfl
    subst hii
    have k := hr _ _ _ _ _ _ _ _ e2 hG P PX hall
    have eL : sdL ρ [(3, .inl (.int 0)), (2, .inl (.int 1)), (0, .inl (.ref i)), (1, bi)] = [(3, .int 0), (2, .int 1), (0, .ref i), (1, .int (ρ 1))] := by
      show [(3, Value.int 0), (2, Value.int 1), (0, Value.ref i), (1, sd ρ bi)] = _
      rw [hb1]
    have eK : sdL ρ [(2, .inl (.int 1)), (0, .inl (.ref i)), (1, bi)] = [(2, .int 1), (0, .ref i), (1, .int (ρ 1))] := by
      show [(2, Value.int 1), (0, Value.ref i), (1, sd ρ bi)] = _
      rw [hb1]
    rw [eL]
    rw [eK] at k
    refine same_loop (fr1 := 40 + d1) (lo1 := 1000 + 200 * d1) hN hb2 hM ⟨by omega, ?_⟩ (fun w x y hw => ?_) hk k
    · have : (mis 180).2.2.1 ≤ 100 := by decide +kernel
      omega
    · obtain ⟨ρ1, h1, h2, h3, h4⟩ := hxy x y
      have hs : swOK d1 i w M = true := by
        rcases hw with rfl | rfl
        · exact a10
        · exact a11
      have g := word_ev h1 hs
      rw [h2, h3, h4, snos_ok (ρ1 := ρ1) (ρ2 := ρ) a8] at g
      exact g
  · cases e
end SM1
