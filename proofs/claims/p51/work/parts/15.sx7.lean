section SX7
variable {TT : List Cond} {cl : List vw_C} {X : XT} {mi : MI} {fr lo : Nat} {P : Option Value → mH → Prop} {PX : String → mH → Prop} {KC KS : Nat} {ρ : Nat → Int32}
theorem sone_ok {dv : Nat → sV → sV → Option Nat} {slen : Nat → Option sV} {mul : Nat → Option (List Value × (Nat → List sE) × Nat × Nat)} {i : Instr} {len : Nat} {inf : sI} {G : sG} {pc : Nat} {L : List (Nat × sV)} {S : List sV} {M : List sE} {r : List sT}
    (hdv : sDV ρ dv) (hnw : kNw TT) (hlen : kLen TT cl X ρ slen) (hscr : kScr X ρ) (hG : sSat ρ G) (h : sone dv slen mul mi.2.2.1 i len inf G pc L S M = some r) (d : decode mi.2.1 pc = .ok (i, len)) (hok : sOKH TT cl X mul mi pc i inf) (hall : ∀ t, t ∈ r → sOne TT cl X mi fr lo P PX ρ KC KS t) :
    LX TT cl X mi fr lo P PX KC KS pc (sdL ρ L) (sdS ρ S) (sdM ρ M) := by
  unfold sone at h
  split at h
  · rename_i xt hxt
    split at h
    · rename_i v hv
      split at h
      · rename_i hc
        cases h
        exact lx_load (x := xt.1) (t := xt.2) hxt d (sget_ok hv) (svty_ok hc) (sOne_get hall (List.mem_singleton.mpr rfl) hG)
      · cases h
    · cases h
  · split at h
    · rename_i v hv
      cases h
      exact lx_push hv d (sOne_get hall (List.mem_singleton.mpr rfl) hG)
    · split at h
      · rename_i xt hxt
        split at h
        · split at h
          · rename_i hc
            cases h
            have k := sOne_get hall (List.mem_singleton.mpr rfl) hG
            rw [← sput_ok] at k
            exact lx_store (x := xt.1) (t := xt.2) hxt d (svty_ok hc.1) hc.2 k
          · cases h
        · cases h
      · split at h
        · rename_i op hop
          split at h
          · rename_i hl1
            subst hl1
            split at h
            · split at h
              · rename_i l hl
                cases h
                obtain ⟨x, y, h1, h2, u, h3, h4, h5⟩ := sbinA_ok hdv hG hl
                have k := sOne_get hall (List.mem_map.mpr ⟨u, h3, rfl⟩) h4
                have k2 := (fun S0 (z : LX TT cl X mi fr lo P PX KC KS (pc + 1) (sdL ρ L) (sdS ρ (u.2 :: S0)) (sdM ρ M)) => (cast (congrArg (fun v => LX TT cl X mi fr lo P PX KC KS (pc + 1) (sdL ρ L) (v :: sdS ρ S0) (sdM ρ M)) h5) z : LX TT cl X mi fr lo P PX KC KS (pc + 1) (sdL ρ L) (.int (sbin op x y) :: sdS ρ S0) (sdM ρ M))) _ k
                have k3 := lx_bin hop d k2
                rw [← h1, ← h2] at k3
                exact k3
              · cases h
            · cases h
          · cases h
        · split at h
          · rename_i r1 hr
            cases h
            exact sstA_ok hdv hG hr d hall
          · exact sstH_ok hnw hlen hscr hG h d hok hall
theorem sret_ok {i : Instr} {len : Nat} {S : List sV} {v : Option sV} {pc : Nat} {L : List (Nat × Value)} {M : mH} (h : sret i len mi.2.2.2.1 S = some v) (d : decode mi.2.1 pc = .ok (i, len)) (hp : P (v.map (sd ρ)) M) : LX TT cl X mi fr lo P PX 0 0 pc L (sdS ρ S) M := by
  unfold sret at h
  split at h
  · rename_i v1 ty hr
    split at h
    · rename_i hc
      cases h
      obtain ⟨x, hx⟩ := sint_ok (ρ := ρ) hc.2
      have hn := snar_ok (ρ := ρ) hc.1
      rw [hx] at hn
      have hp1 : P (some (.int x)) M := by rw [← hx]; exact hp
      have k := lx_ireturn (TT := TT) (cl := cl) (X := X) (fr := fr) (lo := lo) (PX := PX) (kc := 0) (ks := 0) (L := L) d hr hn hp1
      rw [← hx] at k
      exact k
    · cases h
  · rename_i v1 hr
    split at h
    · rename_i hc
      cases h
      obtain ⟨x, hx⟩ := vty_1 (svty_ok (ρ := ρ) hc)
      have hp1 : P (some (.long x)) M := by rw [← hx]; exact hp
      have k := lx_lreturn (TT := TT) (cl := cl) (X := X) (fr := fr) (lo := lo) (PX := PX) (kc := 0) (ks := 0) (L := L) d hr hp1
      rw [← hx] at k
      exact k
    · cases h
  · rename_i v1 hr
    split at h
    · rename_i hc
      cases h
      obtain ⟨x, hx⟩ := vty_2 (svty_ok (ρ := ρ) hc)
      have hp1 : P (some (.float x)) M := by rw [← hx]; exact hp
      have k := lx_freturn (TT := TT) (cl := cl) (X := X) (fr := fr) (lo := lo) (PX := PX) (kc := 0) (ks := 0) (L := L) d hr hp1
      rw [← hx] at k
      exact k
    · cases h
  · rename_i v1 hr
    split at h
    · rename_i hc
      cases h
      obtain ⟨x, hx⟩ := vty_3 (svty_ok (ρ := ρ) hc)
      have hp1 : P (some (.double x)) M := by rw [← hx]; exact hp
      have k := lx_dreturn (TT := TT) (cl := cl) (X := X) (fr := fr) (lo := lo) (PX := PX) (kc := 0) (ks := 0) (L := L) d hr hp1
      rw [← hx] at k
      exact k
    · cases h
  · rename_i v1 nm hr
    split at h
    · rename_i hc
      cases h
      exact lx_areturn d hr (Or.inl ⟨_, rfl⟩) (vty_4 (svty_ok hc)) hp
    · cases h
  · rename_i v1 nm hr
    split at h
    · rename_i hc
      cases h
      exact lx_areturn d hr (Or.inr ⟨_, rfl⟩) (vty_4 (svty_ok hc)) hp
    · cases h
  · rename_i hr
    cases h
    exact lx_return d hr hp
  · cases h
variable {mis : Nat → MI} {row : Nat → Nat → Option (Instr × Nat × sI)} {hk : Nat → sG → List sV → List sE → Option sR} {hnd : Nat → Nat → Nat → Option (Option Nat)}
    {dv : Nat → sV → sV → Option Nat} {slen : Nat → Option sV} {mul : Nat → Nat → Option (List Value × (Nat → List sE) × Nat × Nat)} {en : Nat → String} {rec : Nat → Nat → sC → Option sR}
theorem srcv2_ok {t rc : Nat} {M : List sE} {a : List sV} (h : srcv t rc M a = true) (ht : t = 2 ∨ t = 5) : ∃ (i : Nat) (fs : List Value) (a1 : List Value), sdS ρ a = .ref i :: a1 ∧ (sdM ρ M)[i]? = some (.inr (rc, fs)) := by
  have key : ∀ b : List sV, (match b with
    | r :: _ => match sobj M r with
      | some q => decide (q.2.1 = rc)
      | none => false
    | _ => false) = true → ∃ (i : Nat) (fs : List Value) (a1 : List Value), sdS ρ b = .ref i :: a1 ∧ (sdM ρ M)[i]? = some (.inr (rc, fs)) := by
    intro b hb
    split at hb
    · split at hb
      · rename_i q hq
        obtain ⟨rfl, hM⟩ := sobj_ok hq
        have e : q.2.1 = rc := of_decide_eq_true hb
        have hM1 := sdM_at (ρ := ρ) hM
        rw [show q.2 = (rc, q.2.2) by rw [← e]] at hM1
        exact ⟨q.1, _, _, rfl, hM1⟩
      · cases hb
    · cases hb
  rcases ht with rfl | rfl
  · exact key a h
  · exact key a h
theorem srcv3_ok {rc : Nat} {M : List sE} {a : List sV} (h : srcv 3 rc M a = true) : ∃ (i : Nat) (a1 : List Value), sdS ρ a = .ref i :: a1 := by
  have key : ∀ b : List sV, (match b with
    | .inl (.ref _) :: _ => true
    | _ => false) = true → ∃ (i : Nat) (a1 : List Value), sdS ρ b = .ref i :: a1 := by
    intro b hb
    split at hb
    · exact ⟨_, _, rfl⟩
    · cases hb
  exact key a h
theorem scal_ok (hX : mj_XOK X) (hpl : ∀ m, plainName (mis m).1.cls = true) (hrec : sGood TT cl X mis en ρ rec) (hhk : sHk TT cl X mis en ρ hk) (hhnd : sHnd TT cl X mis en hnd) {d m len : Nat} {inf : sI} {G : sG} {pc : Nat} {L : List (Nat × sV)} {S : List sV} {M : List sE} {r : sR} (hG : sSat ρ G)
    (h : scal rec mis hk hnd d m len inf G pc L S M = some r) (hok : (inf.1 = 6 → kObj TT cl X (mis m) pc) ∧ (¬ inf.1 = 6 → kCall TT cl X (mis m) pc len (mis inf.2.1) inf.1 inf.2.2.1 inf.2.2.2.1))
    (hall : ∀ lf, lf ∈ r.1 → sSat ρ lf.1 → slf ρ en P PX lf) : LX TT cl X (mis m) (40 + d) (1000 + 200 * d) P PX r.2.1 r.2.2 pc (sdL ρ L) (sdS ρ S) (sdM ρ M) := by
  unfold scal at h
  split at h
  · rename_i h6
    split at h
    · split at h
      · rename_i hc
        have k := hrec _ _ _ _ h hG P PX hall
        refine hok.1 h6 _ _ P PX _ _ _ _ _ _ (by omega) (by show ((sdS ρ _).map fun v => v.category).sum + 12 ≤ _; rw [sdS_sum]; omega) k
      · cases h
    · cases h
  · rename_i h6
    split at h
    · cases h
    · rename_i d1
      split at h
      · rename_i hc
        obtain ⟨hc1, hc2, hc3, hc4, hc5⟩ := hc
        split at h
        · cases h
        · rename_i r1 hr1
          split at h
          · cases h
          · rename_i hnt
            split at h
            · cases h
            · rename_i q hq
              cases h
              have hj := sjoin_ok hq
              have hev : ∀ (P1 : Option Value → mH → Prop) (PX1 : String → mH → Prop), (∀ lf, lf ∈ r1.1 → sSat ρ lf.1 → slf ρ en P1 PX1 lf) → EV TT cl X (mis inf.2.1) (40 + d1) (1000 + 200 * d1) r1.2.1 r1.2.2 (sdS ρ (S.take inf.2.2.1).reverse) (sdM ρ M) P1 PX1 := by
                intro P1 PX1 hP1
                split at hr1
                · rename_i r2 hr2
                  cases hr1
                  exact hhk _ _ _ _ _ hr2 hG d1 P1 PX1 hP1
                · have k := hrec _ _ _ _ hr1 hG P1 PX1 hP1
                  refine ev_of hX (hpl _) (by rw [swid_ok]; exact hc4) ?_
                  rw [sargs_ok]
                  exact k
              have k := hok.2 h6 (40 + (d1 + 1)) (1000 + 200 * (d1 + 1)) (40 + d1) (1000 + 200 * d1) P PX (fun v M1 => ∃ lf, lf ∈ r1.1 ∧ sSat ρ lf.1 ∧ ∃ v1, lf.2.1 = .inl v1 ∧ v = v1.map (sd ρ) ∧ M1 = sdM ρ lf.2.2) (fun E M1 => ∃ lf, lf ∈ r1.1 ∧ sSat ρ lf.1 ∧ ∃ E1, lf.2.1 = .inr E1 ∧ E = en E1 ∧ M1 = sdM ρ lf.2.2)
                q.2.1 q.2.2 r1.2.1 r1.2.2 (sdL ρ L) (sdS ρ (S.drop inf.2.2.1)) (sdM ρ M) (sdS ρ (S.take inf.2.2.1).reverse)
                (by unfold sdS; rw [List.length_map, List.length_reverse, List.length_take]; omega) (srcv2_ok hc2) (fun h3 => by rw [h3] at hc2; exact srcv3_ok hc2)
                (fun hnt1 E M1 hz => by
                  obtain ⟨lf, z1, z2, E1, z3, z4, z5⟩ := hz
                  refine hnt ⟨hnt1, List.any_eq_true.mpr ⟨lf, z1, ?_⟩⟩
                  unfold sexc; rw [z3])
                (hev _ _ (fun lf z1 z2 => by
                  unfold slf
                  split
                  · rename_i v1 hv1; exact ⟨lf, z1, z2, v1, hv1, rfl, rfl⟩
                  · rename_i E1 hE1; exact ⟨lf, z1, z2, E1, hE1, rfl, rfl⟩))
                ⟨by omega, by omega⟩ (by rw [sdS_sum]; exact hc3)
                (fun E M1 hz => by
                  obtain ⟨lf, z1, z2, E1, z3, z4, z5⟩ := hz
                  subst z4; subst z5
                  obtain ⟨o, ho, j1, j2, j3⟩ := hj _ (List.mem_map.mpr ⟨lf, z1, rfl⟩)
                  unfold scont at ho
                  rw [z3] at ho
                  dsimp only at ho
                  split at ho
                  · rename_i h9 hh
                    refine hhnd _ _ _ _ hh _ _ P PX _ _ _ _ (lx_room j2 j3 ?_)
                    exact hrec _ _ _ _ ho z2 P PX (fun lf2 y1 y2 => hall lf2 (j1 lf2 y1) y2)
                  · rename_i hh
                    cases ho
                    exact hhnd _ _ _ _ hh _ _ P PX _ _ _ _ (hall _ (j1 _ (List.mem_singleton.mpr rfl)) z2)
                  · cases ho)
                (fun v M1 hz => by
                  obtain ⟨lf, z1, z2, v1, z3, z4, z5⟩ := hz
                  subst z4; subst z5
                  obtain ⟨o, ho, j1, j2, j3⟩ := hj _ (List.mem_map.mpr ⟨lf, z1, rfl⟩)
                  unfold scont at ho
                  rw [z3] at ho
                  dsimp only at ho
                  have k := hrec _ _ _ _ ho z2 P PX (fun lf2 y1 y2 => hall lf2 (j1 lf2 y1) y2)
                  have e : sdS ρ (v1.toList ++ S.drop inf.2.2.1) = (v1.map (sd ρ)).toList ++ sdS ρ (S.drop inf.2.2.1) := by
                    rw [sdS_app]; cases v1 <;> rfl
                  rw [← e]
                  exact lx_room j2 j3 k)
              rw [← sdS_rev, ← sdS_app, List.reverse_reverse, List.take_append_drop] at k
              exact k
      · cases h
theorem sxS_ok (hX : mj_XOK X) (hpl : ∀ m, plainName (mis m).1.cls = true) (hrow : ∀ m pc w, row m pc = some w → sOK TT cl X mis en mul m pc w) (hhk : sHk TT cl X mis en ρ hk) (hhnd : sHnd TT cl X mis en hnd)
    (hdv : sDV ρ dv) (hnw : kNw TT) (hlen : kLen TT cl X ρ slen) (hscr : kScr X ρ) (hrec : sGood TT cl X mis en ρ rec) : sGood TT cl X mis en ρ (sxS rec mis row hk hnd dv slen mul) := by
  intro d m c r h hG P PX hall
  obtain ⟨G, pc, L, S, M⟩ := c
  unfold sxS at h
  split at h
  · cases h
  · rename_i w hw
    obtain ⟨ok1, ok2, ok3, ok4⟩ := hrow _ _ _ hw
    split at h
    · rename_i alts ha
      have hj := sjoin_ok h
      refine sone_ok hdv hnw hlen hscr hG ha ok1 ok2 (fun t ht hs => ?_)
      obtain ⟨o, ho, j1, j2, j3⟩ := hj _ (List.mem_map.mpr ⟨t, ht, rfl⟩)
      unfold sadd at ho
      split at ho
      · cases ho
      · rename_i r1 hr1
        cases ho
        exact ⟨r1.2.1, r1.2.2, j2, j3, hrec _ _ _ _ hr1 hs P PX (fun lf2 y1 y2 => hall lf2 (j1 lf2 y1) y2)⟩
    · split at h
      · rename_i v hv
        cases h
        exact sret_ok hv ok1 (hall _ (List.mem_singleton.mpr rfl) hG)
      · split at h
        · rename_i hi
          exact scal_ok hX hpl hrec hhk hhnd hG h (ok3 hi) hall
        · split at h
          · rename_i ht
            cases h
            unfold sthr at ht
            split at ht
            · rename_i k hk9
              simp only [Bool.and_eq_true, decide_eq_true_eq] at ht
              obtain ⟨⟨ht1, ht2⟩, ht3⟩ := ht
              refine ok4 _ hk9 ht1 _ _ P PX 0 0 _ _ _ (by omega) (by rw [sdS_sum]; dsimp only; omega) ?_
              exact hall _ (List.mem_singleton.mpr rfl) hG
            · cases ht
          · cases h
theorem sx_ok (hX : mj_XOK X) (hpl : ∀ m, plainName (mis m).1.cls = true) (hrow : ∀ m pc w, row m pc = some w → sOK TT cl X mis en mul m pc w) (hhk : sHk TT cl X mis en ρ hk) (hhnd : sHnd TT cl X mis en hnd)
    (hdv : sDV ρ dv) (hnw : kNw TT) (hlen : kLen TT cl X ρ slen) (hscr : kScr X ρ) : ∀ n : Nat, sGood TT cl X mis en ρ (sx mis row hk hnd dv slen mul n) := by
  intro n
  induction n with
  | zero => intro d m c r h; cases h
  | succ n ih => exact sxS_ok hX hpl hrow hhk hhnd hdv hnw hlen hscr ih
end SX7
