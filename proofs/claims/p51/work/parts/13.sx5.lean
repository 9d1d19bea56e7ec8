section SX5
variable {TT : List Cond} {cl : List vw_C} {X : XT} {mi : MI} {fr lo : Nat} {P : Option Value → mH → Prop} {PX : String → mH → Prop} {KC KS : Nat} {ρ : Nat → Int32}
theorem svin_ok {x : Int32} {n : Nat} (h : svin x n = true) : vp_in x n := by
  unfold vp_in
  exact of_decide_eq_true h
theorem sint_eq {v : sV} (h : sint v = true) : sd ρ v = .int (s_i (sd ρ v)) := by
  obtain ⟨y, hy⟩ := sint_ok (ρ := ρ) h
  rw [hy]; rfl
theorem slng_eq {v : sV} (h : svty 1 v = true) : sd ρ v = .long (s_l (sd ρ v)) := by
  obtain ⟨y, hy⟩ := vty_1 (svty_ok (ρ := ρ) h)
  rw [hy]; rfl
theorem sld_i {j : Nat} {us : List (Nat × sV)} (h : sint (slook (.inl (.int 0)) j us) = true) : sd ρ (slook (.inl (.int 0)) j us) = .int (sfi ρ us j) := by
  rw [sfi_at]; exact sint_eq h
theorem sld_l {j : Nat} {us : List (Nat × sV)} (h : svty 1 (slook (.inl (.long 0)) j us) = true) : sd ρ (slook (.inl (.long 0)) j us) = .long (sfl ρ us j) := by
  rw [sfl_at]; exact slng_eq h
theorem sstut {G : sG} {pc : Nat} {L : List (Nat × sV)} {M : List sE} {j : sV} {l : List (Int32 × sG)} {f : sV → List sV} (hf : ∀ a b, sd ρ a = sd ρ b → sdS ρ (f a) = sdS ρ (f b)) (hG : sSat ρ G) (hl : sconc 70 G j = some l)
    (hall : ∀ t, t ∈ l.map (fun q => (((q.2, pc, L, f (.inl (.int q.1)), M), 0, 0) : sT)) → sOne TT cl X mi fr lo P PX ρ KC KS t) : LX TT cl X mi fr lo P PX KC KS pc (sdL ρ L) (sdS ρ (f j)) (sdM ρ M) := by
  obtain ⟨q, h1, h2, h3⟩ := sconc_ok hG hl
  have k := sOne_get hall (List.mem_map.mpr ⟨q, h1, rfl⟩) h2
  rw [hf j (.inl (.int q.1)) h3]
  exact k
theorem sstH_ok {slen : Nat → Option sV} {mul : Nat → Option (List Value × (Nat → List sE) × Nat × Nat)} {i : Instr} {len : Nat} {inf : sI} {G : sG} {pc : Nat} {L : List (Nat × sV)} {S : List sV} {M : List sE} {r : List sT}
    (hnw : kNw TT) (hlen : kLen TT cl X ρ slen) (hscr : kScr X ρ) (hG : sSat ρ G) (h : sstH slen mul i len inf G pc L S M = some r) (d : decode mi.2.1 pc = .ok (i, len)) (hok : sOKH TT cl X mul mi pc i inf) (hall : ∀ t, t ∈ r → sOne TT cl X mi fr lo P PX ρ KC KS t) :
    LX TT cl X mi fr lo P PX KC KS pc (sdL ρ L) (sdS ρ S) (sdM ρ M) := by
  unfold sstH at h
  split at h
  · -- getfield
    split at h
    · rename_i q hq
      split at h
      · rename_i hci
        split at h
        · rename_i v hv
          cases h
          obtain ⟨rfl, hM⟩ := sobj_ok hq
          have k := sOne_get hall (List.mem_singleton.mpr rfl) hG
          have hM1 := sdM_at (ρ := ρ) hM
          rw [show q.2 = (inf.2.1, q.2.2) by rw [← hci]] at hM1
          exact hok fr lo P PX KC KS _ _ _ q.1 (q.2.2.map (sd ρ)) (sd ρ v) hM1 (by rw [List.getElem?_map, hv]; rfl) k
        · cases h
      · cases h
    · cases h
  · -- putfield
    split at h
    · rename_i q hq
      split at h
      · rename_i hc
        cases h
        obtain ⟨rfl, hM⟩ := sobj_ok hq
        have k := sOne_get hall (List.mem_singleton.mpr rfl) hG
        have hM1 := sdM_at (ρ := ρ) hM
        rw [show q.2 = (inf.2.1, q.2.2) by rw [← hc.1]] at hM1
        refine hok fr lo P PX KC KS _ _ _ q.1 (q.2.2.map (sd ρ)) (sd ρ _) hM1 (by rw [List.length_map]; exact hc.2.1) (snar_ok hc.2.2.1) (sfit_ok hc.2.2.2) ?_
        rw [sdM_set] at k
        rw [← List.map_set, ← hc.1]
        exact k
      · cases h
    · cases h
  · -- new
    split at h
    · rename_i hc
      cases h
      obtain ⟨kc, ks, h1, h2, k⟩ := hall _ (List.mem_singleton.mpr rfl) hG
      refine lx_room h1 h2 ?_
      refine hok hc fr lo P PX kc ks _ _ _ ?_
      rw [sdM_len]
      dsimp only at k
      rw [sdM_app] at k
      have e : se ρ (.inl (inf.2.1, inf.2.2.2.2.2.map .inl)) = .inr (inf.2.1, inf.2.2.2.2.2) := by
        show Sum.inr (inf.2.1, (inf.2.2.2.2.2.map Sum.inl).map (sd ρ)) = _
        rw [List.map_map]
        congr 2
        exact (List.map_congr_left (fun _ _ => rfl)).trans (List.map_id _)
      rw [show sdM ρ [.inl (inf.2.1, inf.2.2.2.2.2.map .inl)] = [.inr (inf.2.1, inf.2.2.2.2.2)] by rw [← e]; rfl] at k
      exact k
    · cases h
  · -- checkcast
    split at h
    · rename_i q hq
      split at h
      · rename_i hci
        cases h
        obtain ⟨rfl, hM⟩ := sobj_ok hq
        have k := sOne_get hall (List.mem_singleton.mpr rfl) hG
        have hM1 := sdM_at (ρ := ρ) hM
        rw [show q.2 = (inf.2.1, q.2.2) by rw [← hci]] at hM1
        exact hok fr lo P PX KC KS _ _ _ q.1 (q.2.2.map (sd ρ)) hM1 k
      · cases h
    · cases h
  · -- anewarray
    split at h
    · split at h
      · rename_i hc
        cases h
        obtain ⟨kc, ks, h1, h2, k⟩ := hall _ (List.mem_singleton.mpr rfl) hG
        refine lx_room h1 h2 ?_
        refine hok fr lo P PX kc ks _ _ _ _ hc.1 hc.2 ?_
        rw [sdM_len]
        dsimp only at k
        rw [sdM_app] at k
        exact k
      · cases h
    · cases h
  · -- newarray
    split at h
    · rename_i x q hq
      split at h
      · rename_i hc
        cases h
        obtain ⟨kc, ks, h1, h2, k⟩ := hall _ (List.mem_singleton.mpr rfl) hG
        refine lx_room h1 h2 ?_
        dsimp only at k
        rw [sdM_app] at k
        rw [show M.length = (sdM ρ M).length from sdM_len.symm] at k
        unfold skn at hq
        split at hq
        · cases hq; exact lx_newarray_int d hnw.1 hc.1 rfl hc.2 k
        · cases hq; exact lx_newarray_boolean d hnw.2.1 hc.1 rfl hc.2 k
        · cases hq; exact lx_newarray_char d hnw.2.2.1 hc.1 rfl hc.2 k
        · cases hq; exact lx_newarray_long d hnw.2.2.2.1 hc.1 rfl hc.2 k
        · cases hq; exact lx_newarray_double d hnw.2.2.2.2 hc.1 rfl hc.2 k
        · cases hq
      · cases h
    · cases h
  · -- multianewarray
    split at h
    · rename_i w hw
      split at h
      · rename_i hc
        cases h
        obtain ⟨kc, ks, h1, h2, k⟩ := hall _ (List.mem_singleton.mpr rfl) hG
        refine lx_room h1 h2 ?_
        dsimp only at k
        rw [sdM_app] at k
        rw [show M.length = (sdM ρ M).length from sdM_len.symm] at k
        have k2 := hok w hw ρ fr lo P PX kc ks _ _ _ k
        have e : sdS ρ (w.1.map .inl) = w.1 := by
          unfold sdS
          rw [List.map_map]
          exact (List.map_congr_left (fun _ _ => rfl)).trans (List.map_id _)
        have e3 : ∀ S : List sV, S.take w.1.length = w.1.map .inl → w.1 ++ sdS ρ (S.drop w.1.length) = sdS ρ S := by
          intro S hc
          conv => lhs; arg 1; rw [← e]
          rw [← hc, ← sdS_app, List.take_append_drop]
        exact cast (congrArg (fun z => LX TT cl X mi fr lo P PX (kc + w.2.2.1) (ks + w.2.2.2) pc (sdL ρ L) z (sdM ρ M)) (e3 _ hc)) k2
      · cases h
    · cases h
  · -- arraylength
    split at h
    · split at h
      · rename_i v hv
        cases h
        exact hlen _ _ hv mi fr lo P PX KC KS _ _ _ _ d (sOne_get hall (List.mem_singleton.mpr rfl) hG)
      · cases h
    · split at h
      · rename_i q hq
        cases h
        obtain ⟨rfl, hM⟩ := sarr_ok hq
        have k := sOne_get hall (List.mem_singleton.mpr rfl) hG
        have hM1 := sdM_at (ρ := ρ) hM
        obtain ⟨a, ty, n, kk, us⟩ := q
        match kk, hM1, k with
        | 0, hM1, k => exact lx_arraylength d hM1 k
        | 1, hM1, k => exact lx_arraylength d hM1 k
        | 2, hM1, k => exact lx_arraylength d hM1 k
        | n + 3, hM1, k => exact lx_arraylength d hM1 k
      · cases h
  · -- iaload
    split at h
    · split at h
      · split at h
        · rename_i x b hb
          split at h
          · rename_i hc
            cases h
            obtain ⟨L9, xs, hXI, h6, hl, hx⟩ := hscr
            have k := sOne_get hall (List.mem_singleton.mpr rfl) hG
            have h8 := (hG 8 b hb).1
            refine lx_xload d (by decide) hXI (fun q => ?_) ?_
            · rcases q with q | q
              · exact hc.1 q
              · have := hc.2.2; omega
            · rw [← hx _ hc.2.1]; exact k
          · cases h
        · cases h
      · split at h
        · rename_i i n us hq
          split at h
          · rename_i hc
            cases h
            obtain ⟨e, hM⟩ := sarr_ok hq
            subst e
            have k := sOne_get hall (List.mem_singleton.mpr rfl) hG
            have hM1 := sdM_at (ρ := ρ) hM
            refine lx_iaload d hM1 (svin_ok hc.1) ?_
            rw [← sld_i hc.2]
            exact k
          · cases h
        · cases h
    · split at h
      · rename_i l hl
        cases h
        exact sstut (f := fun z => z :: _ :: _) (fun a b hab => by simp only [sdS, List.map_cons, hab]) hG hl hall
      · cases h
  · -- laload
    split at h
    · split at h
      · rename_i i n us hq
        split at h
        · rename_i hc
          cases h
          obtain ⟨e, hM⟩ := sarr_ok hq
          subst e
          have k := sOne_get hall (List.mem_singleton.mpr rfl) hG
          have hM1 := sdM_at (ρ := ρ) hM
          refine lx_laload d hM1 (svin_ok hc.1) ?_
          rw [← sld_l hc.2]
          exact k
        · cases h
      · cases h
    · cases h
  · -- aaload
    split at h
    · split at h
      · rename_i i ty n us hq
        split at h
        · rename_i w hw
          split at h
          · rename_i hc
            cases h
            obtain ⟨e, hM⟩ := sarr_ok hq
            subst e
            have k := sOne_get hall (List.mem_singleton.mpr rfl) hG
            have hM1 := sdM_at (ρ := ρ) hM
            refine lx_aald hc.2 d hM1 (svin_ok hc.1) ?_
            rw [sfq_at, hw]
            exact k
          · cases h
        · rename_i hw
          split at h
          · rename_i hc
            cases h
            obtain ⟨e, hM⟩ := sarr_ok hq
            subst e
            have k := sOne_get hall (List.mem_singleton.mpr rfl) hG
            have hM1 := sdM_at (ρ := ρ) hM
            refine lx_aald hc.2 d hM1 (svin_ok hc.1) ?_
            rw [sfq_at, hw]
            exact k
          · cases h
        · cases h
      · cases h
    · split at h
      · rename_i l hl
        cases h
        exact sstut (f := fun z => z :: _ :: _) (fun a b hab => by simp only [sdS, List.map_cons, hab]) hG hl hall
      · cases h
  · -- iastore
    split at h
    · split at h
      · rename_i i n us hq
        split at h
        · rename_i hc
          cases h
          obtain ⟨e, hM⟩ := sarr_ok hq
          subst e
          have k := sOne_get hall (List.mem_singleton.mpr rfl) hG
          have hM1 := sdM_at (ρ := ρ) hM
          have hy := sint_eq (ρ := ρ) hc.2
          rw [sdM_set] at k
          have k2 := lx_iastore d hM1 (svin_ok hc.1) k
          rw [← hy] at k2
          exact k2
        · cases h
      · cases h
    · split at h
      · rename_i l hl
        cases h
        exact sstut (f := fun z => _ :: z :: _ :: _) (fun a b hab => by simp only [sdS, List.map_cons, hab]) hG hl hall
      · cases h
  · -- lastore
    split at h
    · split at h
      · rename_i i n us hq
        split at h
        · rename_i hc
          cases h
          obtain ⟨e, hM⟩ := sarr_ok hq
          subst e
          have k := sOne_get hall (List.mem_singleton.mpr rfl) hG
          have hM1 := sdM_at (ρ := ρ) hM
          have hy := slng_eq (ρ := ρ) hc.2
          rw [sdM_set] at k
          have k2 := lx_lastore d hM1 (svin_ok hc.1) k
          rw [← hy] at k2
          exact k2
        · cases h
      · cases h
    · cases h
  · -- castore
    split at h
    · split at h
      · rename_i i n us hq
        split at h
        · rename_i hc
          cases h
          obtain ⟨e, hM⟩ := sarr_ok hq
          subst e
          have k := sOne_get hall (List.mem_singleton.mpr rfl) hG
          have hM1 := sdM_at (ρ := ρ) hM
          rw [sdM_set] at k
          exact lx_castore d hM1 (svin_ok hc) k
        · cases h
      · cases h
    · cases h
  · -- aastore
    split at h
    · rename_i x o ho
      split at h
      · rename_i i ty n us hq
        split at h
        · rename_i hc
          cases h
          obtain ⟨e, hM⟩ := sarr_ok hq
          subst e
          obtain ⟨e, hO⟩ := sobj_ok ho
          subst e
          have k := sOne_get hall (List.mem_singleton.mpr rfl) hG
          have hM1 := sdM_at (ρ := ρ) hM
          have hO1 := sdM_at (ρ := ρ) hO
          rw [show o.2 = (inf.2.1, o.2.2) by rw [← hc.2.1]] at hO1
          obtain ⟨hc1, hc2, hc3⟩ := hc
          subst hc3
          rw [sdM_set] at k
          exact hok fr lo P PX KC KS _ _ _ _ _ _ _ _ _ hM1 hO1 (svin_ok hc1) k
        · cases h
      · cases h
    · cases h
  · -- if_acmp
    split at h
    · rename_i t ht
      split at h
      · rename_i hc
        cases h
        obtain ⟨rfl, h0, -⟩ := hc
        exact lx_acmp_same d (stgt_ok ht) h0 (sOne_get hall (List.mem_singleton.mpr rfl) hG)
      · cases h
    · cases h
  · split at h
    · rename_i v hv
      cases h
      exact hok _ hv fr lo P PX KC KS _ _ _ (sOne_get hall (List.mem_singleton.mpr rfl) hG)
    · cases h
  · split at h
    · rename_i v hv
      cases h
      exact hok _ hv fr lo P PX KC KS _ _ _ (sOne_get hall (List.mem_singleton.mpr rfl) hG)
    · cases h
  · split at h
    · rename_i v hv
      cases h
      exact hok _ hv fr lo P PX KC KS _ _ _ (sOne_get hall (List.mem_singleton.mpr rfl) hG)
    · cases h
  · split at h
    · rename_i v hv
      cases h
      exact hok _ hv fr lo P PX KC KS _ _ _ (sOne_get hall (List.mem_singleton.mpr rfl) hG)
    · cases h
  · cases h
end SX5
