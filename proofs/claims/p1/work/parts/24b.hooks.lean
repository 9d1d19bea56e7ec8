section HK1
theorem lx_fr {TT : List Cond} {cl : List vw_C} {X : XT} {mi : MI} {fr lo fr1 lo1 : Nat} {P : Option Value → mH → Prop} {PX : String → mH → Prop} {kc ks pc : Nat} {L : List (Nat × Value)} {S : List Value} {M : mH} (h1 : fr ≤ fr1) (h2 : lo ≤ lo1) (k : LX TT cl X mi fr lo P PX kc ks pc L S M) : LX TT cl X mi fr1 lo1 P PX kc ks pc L S M := by
  intro p l e R s m args below meth c Qc XC free D sp A as0 F
  obtain ⟨f1, f2, f3, f4, f5, f6, f7, f8, f9, f10, f11, f12, f13, f14, f15, f16⟩ := F
  exact k p l e R s m args below meth c Qc XC free D sp A as0 ⟨f1, f2, f3, f4, f5, f6, f7, f8, f9, f10, Nat.le_trans h1 f11, Nat.le_trans h2 f12, f13, f14, f15, f16⟩
theorem mj_al_ints {as bs : List Nat} {sp : Nat → Nat} : ∀ {a b : List Value}, (∀ v ∈ a, ∃ y, v = Value.int y) → mj_al (mj_vr as sp) a b → mj_al (mj_vr bs sp) a b := by
  intro a
  induction a with
  | nil => intro b _ h; rw [mj_al_nil h]; trivial
  | cons v a ih =>
    intro b hi h
    obtain ⟨w, m1, rfl, h1, h2⟩ := mj_al_cons h
    obtain ⟨y, rfl⟩ := hi v List.mem_cons_self
    exact ⟨h1, ih (fun v hv => hi v (List.mem_cons_of_mem _ hv)) h2⟩
/-- a method that was told over no heap at all, of ints, does the same over any -/
theorem ev_frame {TT : List Cond} {cl : List vw_C} {X : XT} {mi : MI} {fr lo : Nat} {a : List Value} {M : mH} {x : Int32} {P : Option Value → mH → Prop} {PX : String → mH → Prop} (hX : mj_XOK X) (hi : ∀ v ∈ a, ∃ y, v = Value.int y)
    (he : EV TT cl X mi fr lo 0 0 a [] (fun v _ => v = some (.int x)) (fun _ _ => False)) (hP : P (some (.int x)) M) : EV TT cl X mi fr lo 0 0 a M P PX := by
  intro l D sp as a1 sz hl hal
  have h := he l D sp [] a1 sz hl (mj_al_ints hi hal)
  intro p e hadm hc hk s m args below hf happ hPc hK
  obtain ⟨hargs, hsz, hWR, hXs⟩ := hPc
  have hWR0 : mj_WR D cl sp (mj_A [] sz) s [] [] s.heap := by
    obtain ⟨ws, tys, hKK, hPP, hDD, -⟩ := hWR
    have hD0 := hDD.sub (ws' := []) [] (by decide) rfl
    exact ⟨[], tys, hKK, fun k q hq => by simp at hq, ⟨hD0.1, fun k q hq => by simp at hq⟩, rfl, rfl, fun i e hi => by simp at hi⟩
  obtain ⟨n, o, h1, h2, h3, h4⟩ := h p e hadm hc hk s m args below hf happ ⟨hargs, hsz, hWR0, hX.2.1 _ _ sp s s.heap (fun q z => by rcases z with z | z; cases z; exact Or.inr z) hXs⟩ hK
  refine ⟨n, o, h1, h2, h3, ?_⟩
  rcases h4 with ⟨hq, L, hFE, hfree⟩ | ⟨q, -, E, ce, L, hx, -⟩
  · obtain ⟨as1, M1, v, w, ew, hv, hor, -, hF, -⟩ := hq
    subst hv
    obtain ⟨w', rfl, hw⟩ := hor
    refine Or.inl ⟨⟨as, M, some (.int x), some w', ew, hP, ⟨w', rfl, hw⟩, ?_, ⟨hF.1, fun q hq hA => hF.2 q hq (fun z => hA (by rcases z with z | z; cases z; exact Or.inr z))⟩, mj_le_rf⟩, L, hFE, fun q hq => by rcases hfree q hq with z | z; cases z; exact Or.inr z⟩
    have hW1 : mj_WR D cl sp (mj_A as sz) s as M _ := mj_WR_ext (fun q hq => hF.2 q hq (fun z => by rcases z with z | z; cases z; exact absurd hq (Nat.not_lt.mpr (by rw [hsz]; exact z)))) hWR
    exact mj_WR_moved hFE.2.1.alike hW1
  · obtain ⟨_, _, hx, _⟩ := hx
    exact hx.elim
variable {X : XT} {ρ : Nat → Int32} {t9 : Nat}
theorem ltF_mem {n : Int32} {k c : Nat} : ∀ {l : List (Nat × Nat × Nat)}, ltF l n k = some c → ∃ q, q ∈ l ∧ Int32.ofNat q.1 = n ∧ q.2.1 = k ∧ q.2.2 = c := by
  intro l
  induction l with
  | nil => intro h; cases h
  | cons q r ih =>
    intro h
    unfold ltF at h
    cases e : (decide (Int32.ofNat q.1 = n) && Nat.beq q.2.1 k) with
    | true =>
      rw [e] at h
      cases h
      rw [Bool.and_eq_true] at e
      exact ⟨q, List.mem_cons_self, of_decide_eq_true e.1, Nat.eq_of_beq_eq_true e.2, rfl⟩
    | false =>
      rw [e] at h
      obtain ⟨q1, h1, h2⟩ := ih h
      exact ⟨q1, List.mem_cons_of_mem _ h1, h2⟩
theorem noF_mem {n u p : Int32} {c : Nat} : ∀ {l : List (Nat × Nat × Nat × Nat)}, noF l n u p = some c → ∃ q, q ∈ l ∧ Int32.ofNat q.1 = n ∧ Int32.ofNat q.2.1 = u ∧ Int32.ofNat q.2.2.1 = p ∧ q.2.2.2 = c := by
  intro l
  induction l with
  | nil => intro h; cases h
  | cons q r ih =>
    intro h
    unfold noF at h
    cases e : (decide (Int32.ofNat q.1 = n) && decide (Int32.ofNat q.2.1 = u) && decide (Int32.ofNat q.2.2.1 = p)) with
    | true =>
      rw [e] at h
      cases h
      simp only [Bool.and_eq_true] at e
      exact ⟨q, List.mem_cons_self, of_decide_eq_true e.1.1, of_decide_eq_true e.1.2, of_decide_eq_true e.2, rfl⟩
    | false =>
      rw [e] at h
      obtain ⟨q1, h1, h2⟩ := ih h
      exact ⟨q1, List.mem_cons_of_mem _ h1, h2⟩
theorem sSat_nil : sSat ρ [] := fun k b h => by simp at h
theorem hkt_ok_63 (h : HX X ρ t9) (hc : ∀ q ∈ ltL, chkLT q = true) : runOK TT cl6 X mis en ρ 63 hkt_63 := by
  intro rec hr d1 G a M r e hw hG P PX hall
  unfold hkt_63 at e
  split at e
  · rename_i n k
    split at e
    · rename_i c hlt
      obtain ⟨e1, e2⟩ := cond_some e
      rw [fN_eq] at e2
      cases e2
      obtain ⟨q, hq, q1, q2, q3⟩ := ltF_mem hlt
      have hrun := hc q hq
      unfold chkLT at hrun
      split at hrun
      · rename_i G1 k1 hfx
        have hk1 := Nat.eq_of_beq_eq_true hrun
        have hd := Nat.le_of_ble_eq_true e1
        refine ev_frame (x := ρ c) (hx_ok h) ?_ ?_ (hall _ (List.mem_singleton.mpr rfl) hG)
        · intro v hv
          rcases List.mem_cons.mp hv with rfl | hv
          · exact ⟨_, rfl⟩
          · rcases List.mem_cons.mp hv with rfl | hv
            · exact ⟨_, rfl⟩
            · cases hv
        · have g := fx_ok (rowL_ok h) _ _ _ _ _ _ _ _ _ hfx sSat_nil (fun v _ => v = some (.int (ρ c))) (fun _ _ => False) (fun lf hlf _ => by
            rcases List.mem_cons.mp hlf with rfl | hlf
            · show some (Value.int (ρ k1)) = _
              rw [hk1, q3]
            · cases hlf)
          have g2 := lx_fr (show 40 + 1 ≤ 40 + d1 by omega) (show 1000 + 200 * 1 ≤ 1000 + 200 * d1 by omega) g
          refine ev_of (hx_ok h) (by decide +kernel) (by rw [swid_ok]; exact hw) ?_
          rw [sargs_ok]
          rw [q1, q2] at g2
          exact g2
      · cases hrun
    · exact runC_ok (hx_ok h) (by decide +kernel) rec hr d1 G _ M r e hw hG P PX hall
  · exact runC_ok (hx_ok h) (by decide +kernel) rec hr d1 G _ M r e hw hG P PX hall
theorem hkt_ok_158 (h : HX X ρ t9) (hc : ∀ q ∈ noL, chkNO q = true ∧ (Int32.ofNat q.1).toNatClampNeg = q.1) : runOK TT cl6 X mis en ρ 158 hkt_158 := by
  intro rec hr d1 G a M r e hw hG P PX hall
  unfold hkt_158 at e
  split at e
  · rename_i n k u p d
    split at e
    · rename_i c hlt
      rw [fN_eq] at e
      cases e
      obtain ⟨e1, e2⟩ := cond_some hlt
      rw [Bool.and_eq_true] at e1
      have hd := of_decide_eq_true e1.1
      have hk := Nat.eq_of_beq_eq_true e1.2
      obtain ⟨q, hq, q1, q2, q3, q4⟩ := noF_mem e2
      obtain ⟨hrun, hcl⟩ := hc q hq
      unfold chkNO at hrun
      split at hrun
      · rename_i G1 k1 hfx
        have hk1 := Nat.eq_of_beq_eq_true hrun
        refine ev_frame (x := ρ c) (hx_ok h) ?_ ?_ (hall _ (List.mem_singleton.mpr rfl) hG)
        · intro v hv
          rcases List.mem_cons.mp hv with rfl | hv
          · exact ⟨_, rfl⟩
          · rcases List.mem_cons.mp hv with rfl | hv
            · exact ⟨_, rfl⟩
            · rcases List.mem_cons.mp hv with rfl | hv
              · exact ⟨_, rfl⟩
              · rcases List.mem_cons.mp hv with rfl | hv
                · exact ⟨_, rfl⟩
                · rcases List.mem_cons.mp hv with rfl | hv
                  · exact ⟨_, rfl⟩
                  · cases hv
        · have g := fx_ok (rowL_ok h) _ _ _ _ _ _ _ _ _ hfx sSat_nil (fun v _ => v = some (.int (ρ c))) (fun _ _ => False) (fun lf hlf _ => by
            rcases List.mem_cons.mp hlf with rfl | hlf
            · show some (Value.int (ρ k1)) = _
              rw [hk1, q4]
            · cases hlf)
          have g2 := lx_fr (show 40 + 0 ≤ 40 + d1 by omega) (show 1000 + 200 * 0 ≤ 1000 + 200 * d1 by omega) g
          refine ev_of (hx_ok h) (by decide +kernel) (by rw [swid_ok]; exact hw) ?_
          rw [sargs_ok]
          have hn : n.toNatClampNeg = q.1 := by rw [← q1]; exact hcl
          rw [hk, hd, hn]
          rw [q1, q2, q3] at g2
          exact g2
      · cases hrun
    · exact runC_ok (hx_ok h) (by decide +kernel) rec hr d1 G _ M r e hw hG P PX hall
  · exact runC_ok (hx_ok h) (by decide +kernel) rec hr d1 G _ M r e hw hG P PX hall
theorem sful_ok (h : HX X ρ t9) {G : sG} (hG : sSat ρ G) (hs : sfulT G = true) {k k1 : Int} {kx : List Int} (hk : G[1]? = some (k, k1, kx)) : ρ 1 = Int32.ofInt k ∧ sd ρ (lEk k) = .int (ρ 2) := by
  unfold sfulT at hs
  rw [hk] at hs
  cases h2 : G[2]? with
  | none => rw [h2] at hs; cases hs
  | some b =>
    obtain ⟨t0, t1, tx⟩ := b
    rw [h2] at hs
    simp only [Bool.and_eq_true] at hs
    obtain ⟨⟨⟨⟨s1, s2⟩, s3⟩, s4⟩, s5⟩ := hs
    have s1 := of_decide_eq_true s1
    have s2 := of_decide_eq_true s2
    have s3 := of_decide_eq_true s3
    have s4 := of_decide_eq_true s4
    have s5 := of_decide_eq_true s5
    have b1 := hG 1 _ hk
    have b2 := hG 2 _ h2
    have e1 : (ρ 1).toInt = k := by
      have := b1.1; have := b1.2.1; dsimp only at *; omega
    refine ⟨by rw [← e1, Int32.ofInt_toInt], ?_⟩
    show Value.int (ρ (lsym (lE (2 ^ k.toNat)))) = _
    rw [lsym_ok (hx_lr h)]
    have hm : 2 ^ k.toNat ∈ [2, 4, 8, 16] := by
      have : k = 1 ∨ k = 2 ∨ k = 3 ∨ k = 4 := by omega
      rcases this with rfl | rfl | rfl | rfl <;> decide
    rw [evL_E hm (by have := b2.1; dsimp only at this; omega) (by have := b2.2.1; dsimp only at this; omega) (hx_t9 h)]
theorem hk_ok_62 (h : HX X ρ t9) : runOK TT cl6 X mis en ρ 62 hk_62 := by
  intro rec hr d1 G a M r e hw hG P PX hall
  unfold hk_62 at e
  split at e
  · obtain ⟨e1, e2⟩ := cond_some e
    split at e2
    · rename_i k k1 kx hk
      rw [fZ_eq, fV_eq, argsC_eq] at e2
      obtain ⟨h1, h2⟩ := sful_ok h hG e1 hk
      have es : sdS ρ [.inr (false, 1), .inr (false, 2)] = sdS ρ [.inl (.int (Int32.ofInt k)), lEk k] := by
        show [Value.int (ρ 1), Value.int (ρ 2)] = [Value.int (Int32.ofInt k), sd ρ (lEk k)]
        rw [h1, h2]
      rw [es]
      refine ev_of (hx_ok h) (by decide +kernel) (by rw [swid_ok]; exact hw) ?_
      rw [sargs_ok]
      exact hr _ _ _ _ _ _ _ _ e2 hG P PX hall
    · cases e2
  · cases e
theorem hk_ok_158 (h : HX X ρ t9) : runOK TT cl6 X mis en ρ 158 hk_158 := by
  intro rec hr d1 G a M r e hw hG P PX hall
  unfold hk_158 at e
  split at e
  · rename_i x y1 z
    obtain ⟨e1, e2⟩ := cond_some e
    simp only [Bool.and_eq_true] at e1
    obtain ⟨⟨⟨e1, x0⟩, y0⟩, z0⟩ := e1
    cases of_decide_eq_true x0
    cases of_decide_eq_true y0
    cases of_decide_eq_true z0
    split at e2
    · rename_i k k1 kx hk
      rw [fZ_eq, fV_eq, argsC_eq] at e2
      obtain ⟨h1, h2⟩ := sful_ok h hG e1 hk
      have es : sdS ρ [.inr (false, 1), .inr (false, 2), .inl (.int 0), .inl (.int 0), .inl (.int 0)] = sdS ρ [.inl (.int (Int32.ofInt k)), lEk k, .inl (.int 0), .inl (.int 0), .inl (.int 0)] := by
        show [Value.int (ρ 1), Value.int (ρ 2), _, _, _] = [Value.int (Int32.ofInt k), sd ρ (lEk k), _, _, _]
        rw [h1, h2]
      rw [es]
      refine ev_of (hx_ok h) (by decide +kernel) (by rw [swid_ok]; exact hw) ?_
      rw [sargs_ok]
      exact hr _ _ _ _ _ _ _ _ e2 hG P PX hall
    · cases e2
  · cases e
end HK1
