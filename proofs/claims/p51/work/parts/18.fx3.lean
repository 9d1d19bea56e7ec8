section FX3
variable {TT : List Cond} {cl : List vw_C} {X : XT} {mis : Nat → MI} {en : Nat → String} {ρ : Nat → Int32} {m pc nx : Nat} {i : Instr} {len : Nat}
/-- the object at a reference -/
def objC {β : Type} (M : List sE) (r : sV) (f : Nat → Nat → List sV → Option β) : Option β := match r with
  | .inl (.ref i) => (match M[i]? with
    | some (.inl (ci, fs)) => f i ci fs
    | _ => none)
  | _ => none
theorem objC_ok {β : Type} {M : List sE} {r : sV} {f : Nat → Nat → List sV → Option β} {b : β} (h : objC M r f = some b) : ∃ i ci fs, r = .inl (.ref i) ∧ M[i]? = some (.inl (ci, fs)) ∧ f i ci fs = some b := by
  unfold objC at h
  split at h
  · split at h
    · rename_i hk
      exact ⟨_, _, _, rfl, hk, h⟩
    · cases h
  · cases h
def arrC {β : Type} (M : List sE) (r : sV) (f : Nat → FieldType → Nat → Nat → List (Nat × sV) → Option β) : Option β := match r with
  | .inl (.ref i) => (match M[i]? with
    | some (.inr (ty, n, k, us)) => f i ty n k us
    | _ => none)
  | _ => none
theorem arrC_ok {β : Type} {M : List sE} {r : sV} {f : Nat → FieldType → Nat → Nat → List (Nat × sV) → Option β} {b : β} (h : arrC M r f = some b) : ∃ i ty n k us, r = .inl (.ref i) ∧ M[i]? = some (.inr (ty, n, k, us)) ∧ f i ty n k us = some b := by
  unfold arrC at h
  split at h
  · split at h
    · rename_i hk
      exact ⟨_, _, _, _, _, rfl, hk, h⟩
    · cases h
  · cases h
def nthC {β : Type} (k : sV → Option β) : Nat → List sV → Option β
  | _, [] => none
  | 0, v :: _ => k v
  | n + 1, _ :: r => nthC k n r
theorem nthC_ok {β : Type} {k : sV → Option β} {b : β} : ∀ {fs : List sV} {n : Nat}, nthC k n fs = some b → ∃ v, fs[n]? = some v ∧ k v = some b := by
  intro fs
  induction fs with
  | nil => intro n h; cases n <;> cases h
  | cons v r ih =>
    intro n h
    cases n with
    | zero => exact ⟨v, rfl, h⟩
    | succ n =>
      obtain ⟨w, h1, h2⟩ := ih (show nthC k n r = some b from h)
      exact ⟨w, by simpa using h1, h2⟩
def oGet (m nx ci k : Nat) : Op := fun rec d G L S M => match S with
  | r :: S1 => objC M r (fun _ c fs => cond (Nat.beq c ci) (nthC (fun v => rec d m G nx L (v :: S1) M) k fs) none)
  | _ => none
theorem oGet_ok {ci k : Nat} (hk : kGet TT cl X (mis m) pc ci k) (hn : pc + 3 = nx) : opOK TT cl X mis en ρ m pc (oGet m nx ci k) := by
  intro rec hr dd G L S M r e hG P PX hall
  subst hn
  unfold oGet at e
  split at e
  · obtain ⟨i, c, fs, rfl, hM, e1⟩ := objC_ok e
    obtain ⟨e2, e3⟩ := cond_some e1
    cases Nat.eq_of_beq_eq_true e2
    obtain ⟨v, hv, e4⟩ := nthC_ok e3
    exact hk _ _ P PX _ _ _ _ _ i (fs.map (sd ρ)) (sd ρ v) (sdM_at (ρ := ρ) hM) (by rw [List.getElem?_map, hv]; rfl) (hr _ _ _ _ _ _ _ _ e4 hG P PX hall)
  · cases e
def oPut (m nx ci k : Nat) (ty : FieldType) : Op := fun rec d G L S M => match S with
  | v :: r :: S1 => objC M r (fun i c fs => cond (Nat.beq c ci && Nat.blt k fs.length && snar ty v && sfit ty v) (fS (fs.set k v) (fun fs1 => fS (M.set i (.inl (c, fs1))) (fun M1 => rec d m G nx L S1 M1))) none)
  | _ => none
theorem oPut_ok {ci k : Nat} {ty : FieldType} (hk : kPut TT cl X (mis m) pc ci k ty) (hn : pc + 3 = nx) : opOK TT cl X mis en ρ m pc (oPut m nx ci k ty) := by
  intro rec hr dd G L S M r e hG P PX hall
  subst hn
  unfold oPut at e
  split at e
  · obtain ⟨i, c, fs, rfl, hM, e1⟩ := objC_ok e
    obtain ⟨e2, e3⟩ := cond_some e1
    simp only [Bool.and_eq_true] at e2
    obtain ⟨⟨⟨h1, h2⟩, h3⟩, h4⟩ := e2
    cases Nat.eq_of_beq_eq_true h1
    rw [fS_eq, fS_eq] at e3
    have k1 := hr _ _ _ _ _ _ _ _ e3 hG P PX hall
    refine hk _ _ P PX _ _ _ _ _ i (fs.map (sd ρ)) (sd ρ _) (sdM_at (ρ := ρ) hM) (by rw [List.length_map]; exact Nat.blt_eq.mp h2) (snar_ok h3) (sfit_ok h4) ?_
    rw [sdM_set] at k1
    rw [← List.map_set]
    exact k1
  · cases e
def oNew (m nx ci N : Nat) (fs : List Value) : Op := fun rec d G L S M => fN M.length (fun h => fS (M ++ [.inl (ci, fs.map .inl)]) (fun M1 => ad2 1 N (rec d m G nx L (.inl (.ref h) :: S) M1)))
theorem ad2_some {a b : Nat} {o : Option sR} {r : sR} (h : ad2 a b o = some r) : ∃ r1, o = some r1 ∧ r = (r1.1, r1.2.1 + a, r1.2.2 + b) := by
  unfold ad2 at h
  split at h
  · cases h
  · cases h; exact ⟨_, rfl, rfl⟩
theorem oNew_ok {ci N : Nat} {fs : List Value} (hk : kNew TT cl X (mis m) pc ci N fs) (hn : pc + 3 = nx) : opOK TT cl X mis en ρ m pc (oNew m nx ci N fs) := by
  intro rec hr dd G L S M r e hG P PX hall
  subst hn
  unfold oNew at e
  rw [fN_eq, fS_eq] at e
  obtain ⟨r1, e1, rfl⟩ := ad2_some e
  have k := hr _ _ _ _ _ _ _ _ e1 hG P PX hall
  refine hk _ _ P PX _ _ _ _ _ ?_
  rw [sdM_len]
  rw [sdM_app] at k
  have e2 : se ρ (.inl (ci, fs.map .inl)) = .inr (ci, fs) := by
    show Sum.inr (ci, (fs.map Sum.inl).map (sd ρ)) = _
    rw [List.map_map]
    congr 2
    exact (List.map_congr_left (fun _ _ => rfl)).trans (List.map_id _)
  rw [show sdM ρ [.inl (ci, fs.map .inl)] = [.inr (ci, fs)] by rw [← e2]; rfl] at k
  exact k
def oCast (m nx ci : Nat) : Op := fun rec d G L S M => match S with
  | r :: S1 => objC M r (fun i c _ => cond (Nat.beq c ci) (rec d m G nx L (.inl (.ref i) :: S1) M) none)
  | _ => none
theorem oCast_ok {ci : Nat} (hk : kCast TT cl X (mis m) pc ci) (hn : pc + 3 = nx) : opOK TT cl X mis en ρ m pc (oCast m nx ci) := by
  intro rec hr dd G L S M r e hG P PX hall
  subst hn
  unfold oCast at e
  split at e
  · obtain ⟨i, c, fs, rfl, hM, e1⟩ := objC_ok e
    obtain ⟨e2, e3⟩ := cond_some e1
    cases Nat.eq_of_beq_eq_true e2
    exact hk _ _ P PX _ _ _ _ _ i (fs.map (sd ρ)) (sdM_at (ρ := ρ) hM) (hr _ _ _ _ _ _ _ _ e3 hG P PX hall)
  · cases e
def oAnew (m nx : Nat) (ty : FieldType) : Op := fun rec d G L S M => match S with
  | .inl (.int x) :: S1 => cond (decide (¬ x < 0 ∧ x.toNatClampNeg ≤ 67108864)) (fN M.length (fun h => fN x.toNatClampNeg (fun n => fS (M ++ [.inr (ty, n, 3, [])]) (fun M1 => ad2 1 n (rec d m G nx L (.inl (.ref h) :: S1) M1))))) none
  | _ => none
theorem oAnew_ok {ty : FieldType} (hk : kAnew TT cl X (mis m) pc ty) (hn : pc + 3 = nx) : opOK TT cl X mis en ρ m pc (oAnew m nx ty) := by
  intro rec hr dd G L S M r e hG P PX hall
  subst hn
  unfold oAnew at e
  split at e
  · obtain ⟨e2, e3⟩ := cond_some e
    have hc := of_decide_eq_true e2
    rw [fN_eq, fN_eq, fS_eq] at e3
    obtain ⟨r1, e1, rfl⟩ := ad2_some e3
    have k := hr _ _ _ _ _ _ _ _ e1 hG P PX hall
    refine hk _ _ P PX _ _ _ _ _ _ hc.1 hc.2 ?_
    rw [sdM_len]
    rw [sdM_app] at k
    exact k
  · cases e
def oNewarr (m nx : Nat) (ty : FieldType) (kd : Nat) : Op := fun rec d G L S M => match S with
  | .inl (.int x) :: S1 => cond (decide (¬ x < 0 ∧ x.toNatClampNeg ≤ 67108864)) (fN M.length (fun h => fN x.toNatClampNeg (fun n => fS (M ++ [.inr (ty, n, kd, [])]) (fun M1 => ad2 1 n (rec d m G nx L (.inl (.ref h) :: S1) M1))))) none
  | _ => none
theorem oNewarr_ok {t : ClassFile.ArrayType} {ty : FieldType} {kd : Nat} (hnw : kNw TT) (d : decode (mis m).2.1 pc = .ok (.newarray t, 2)) (hq : skn t = some (ty, kd)) (hn : pc + 2 = nx) : opOK TT cl X mis en ρ m pc (oNewarr m nx ty kd) := by
  intro rec hr dd G L S M r e hG P PX hall
  subst hn
  unfold oNewarr at e
  split at e
  · obtain ⟨e2, e3⟩ := cond_some e
    have hc := of_decide_eq_true e2
    rw [fN_eq, fN_eq, fS_eq] at e3
    obtain ⟨r1, e1, rfl⟩ := ad2_some e3
    have k := hr _ _ _ _ _ _ _ _ e1 hG P PX hall
    rw [sdM_app] at k
    rw [show M.length = (sdM ρ M).length from sdM_len.symm] at k
    unfold skn at hq
    split at hq
    · cases hq; exact lx_newarray_int d hnw.1 hc.1 rfl hc.2 k
    · cases hq; exact lx_newarray_boolean d hnw.2.1 hc.1 rfl hc.2 k
    · cases hq; exact lx_newarray_char d hnw.2.2.1 hc.1 rfl hc.2 k
    · cases hq; exact lx_newarray_long d hnw.2.2.2.1 hc.1 rfl hc.2 k
    · cases hq; exact lx_newarray_double d hnw.2.2.2.2 hc.1 rfl hc.2 k
    · cases hq
  · cases e
def svs (v : sV) (w : Value) : Bool := match v, w with
  | .inl (.int x), .int y => decide (x = y)
  | _, _ => false
theorem svs_ok {v : sV} {w : Value} (h : svs v w = true) : sd ρ v = w := by
  unfold svs at h
  split at h
  · rw [of_decide_eq_true h]; rfl
  · cases h
/-- new int[2][4][4] and its like: the counts told -/
def oMul3 (m nx : Nat) (v1 v2 v3 : Value) (nw : Nat → List sE) (cc ss : Nat) : Op := fun rec d G L S M => match S with
  | a :: b :: c :: S1 => cond (svs a v1 && svs b v2 && svs c v3) (fN M.length (fun h => fS (M ++ nw h) (fun M1 => ad2 cc ss (rec d m G nx L (.inl (.ref h) :: S1) M1)))) none
  | _ => none
theorem oMul3_ok {v1 v2 v3 : Value} {nw : Nat → List sE} {cc ss : Nat} (hk : kMul TT cl X (mis m) pc [v1, v2, v3] nw cc ss) (hn : pc + 4 = nx) : opOK TT cl X mis en ρ m pc (oMul3 m nx v1 v2 v3 nw cc ss) := by
  intro rec hr dd G L S M r e hG P PX hall
  subst hn
  unfold oMul3 at e
  split at e
  · obtain ⟨e2, e3⟩ := cond_some e
    simp only [Bool.and_eq_true] at e2
    obtain ⟨⟨h1, h2⟩, h3⟩ := e2
    rw [fN_eq, fS_eq] at e3
    obtain ⟨r1, e1, rfl⟩ := ad2_some e3
    have k := hr _ _ _ _ _ _ _ _ e1 hG P PX hall
    rw [sdM_app] at k
    rw [show M.length = (sdM ρ M).length from sdM_len.symm] at k
    have k2 := hk ρ _ _ P PX _ _ _ _ _ k
    have e9 : ∀ S1 : List sV, sdS ρ (_ :: _ :: _ :: S1) = v1 :: v2 :: v3 :: sdS ρ S1 := fun S1 => by rw [← svs_ok (ρ := ρ) h1, ← svs_ok (ρ := ρ) h2, ← svs_ok (ρ := ρ) h3]; rfl
    rw [e9]
    exact k2
  · cases e
def oLen (slen : Nat → Option sV) (m nx : Nat) : Op := fun rec d G L S M => match S with
  | .inl (.retAddr k) :: S1 => (match slen k with
    | some v => rec d m G nx L (v :: S1) M
    | none => none)
  | r :: S1 => arrC M r (fun _ _ n _ _ => fI (Int32.ofNat n) (fun x => rec d m G nx L (.inl (.int x) :: S1) M))
  | _ => none
theorem oLen_ok {slen : Nat → Option sV} (hlen : kLen TT cl X ρ slen) (d : decode (mis m).2.1 pc = .ok (.arraylength, 1)) (hn : pc + 1 = nx) : opOK TT cl X mis en ρ m pc (oLen slen m nx) := by
  intro rec hr dd G L S M r e hG P PX hall
  subst hn
  unfold oLen at e
  split at e
  · split at e
    · rename_i v hv
      exact hlen _ _ hv (mis m) _ _ P PX _ _ _ _ _ _ d (hr _ _ _ _ _ _ _ _ e hG P PX hall)
    · cases e
  · obtain ⟨a, ty, n, kk, us, rfl, hM, e1⟩ := arrC_ok e
    rw [fI_eq] at e1
    have k := hr _ _ _ _ _ _ _ _ e1 hG P PX hall
    have hM1 := sdM_at (ρ := ρ) hM
    match kk, hM1, k with
    | 0, hM1, k => exact lx_arraylength d hM1 k
    | 1, hM1, k => exact lx_arraylength d hM1 k
    | 2, hM1, k => exact lx_arraylength d hM1 k
    | n + 3, hM1, k => exact lx_arraylength d hM1 k
  · cases e
/-- an int told, else the instruction once more with each that it may be -/
theorem sd_con {j : sV} {x : Int32} {S : List sV} (h : sd ρ j = .int x) : sdS ρ (j :: S) = sdS ρ (.inl (.int x) :: S) := by
  show sd ρ j :: _ = Value.int x :: _
  rw [h]
def oIald (m nx : Nat) : Op := fun rec d G L S M => match S with
  | j :: r :: S1 => conF G j (fun x G1 => match r with
    | .inl (.retAddr 1) => (match G1[8]? with
      | some b => cond (decide (¬ x < 0 ∧ x.toNatClampNeg < 6 ∧ (x.toNatClampNeg : Int) < b.1)) (fN x.toNatClampNeg (fun k => rec d m G1 nx L (.inr (false, k) :: S1) M)) none
      | none => none)
    | r => arrC M r (fun _ ty n kd us => match ty, kd with
      | .int, 0 => fV (slook (.inl (.int 0)) x.toNatClampNeg us) (fun v => cond (svin x n && sint v) (rec d m G1 nx L (v :: S1) M) none)
      | _, _ => none))
  | _ => none
theorem oIald_ok (hscr : kScr X ρ) (d : decode (mis m).2.1 pc = .ok (.iaload, 1)) (hn : pc + 1 = nx) : opOK TT cl X mis en ρ m pc (oIald m nx) := by
  intro rec hr dd G L S M r e hG P PX hall
  subst hn
  unfold oIald at e
  split at e
  · rename_i j r0 S1
    obtain ⟨x, h1, G1, r1, e1, h4, j1, j2, j3⟩ := conF_ok hG e
    rw [sd_con h1]
    split at e1
    · split at e1
      · rename_i b hb
        obtain ⟨e2, e3⟩ := cond_some e1
        have hc := of_decide_eq_true e2
        rw [fN_eq] at e3
        have k := gd_of j1 j2 j3 h4 (hr _ _ _ _ _ _ _ _ e3) hG P PX hall
        obtain ⟨L9, xs, hXI, h6, hl, hx⟩ := hscr
        have h8 := (h4 8 b hb).1
        refine lx_xload d (by decide) hXI (fun q => ?_) ?_
        · rcases q with q | q
          · exact hc.1 q
          · have := hc.2.2; omega
        · rw [← hx _ hc.2.1]; exact k
      · cases e1
    · obtain ⟨a, ty, n, kk, us, rfl, hM, e2⟩ := arrC_ok e1
      split at e2
      · rw [fV_eq] at e2
        obtain ⟨e3, e4⟩ := cond_some e2
        rw [Bool.and_eq_true] at e3
        have k := gd_of j1 j2 j3 h4 (hr _ _ _ _ _ _ _ _ e4) hG P PX hall
        have hM1 := sdM_at (ρ := ρ) hM
        refine lx_iaload d hM1 (svin_ok e3.1) ?_
        rw [← sld_i e3.2]
        exact k
      · cases e2
  · cases e
def oLald (m nx : Nat) : Op := fun rec d G L S M => match S with
  | .inl (.int x) :: r :: S1 => arrC M r (fun _ ty n kd us => match ty, kd with
      | .long, 1 => fV (slook (.inl (.long 0)) x.toNatClampNeg us) (fun v => cond (svin x n && svty 1 v) (rec d m G nx L (v :: S1) M) none)
      | _, _ => none)
  | _ => none
theorem oLald_ok (d : decode (mis m).2.1 pc = .ok (.laload, 1)) (hn : pc + 1 = nx) : opOK TT cl X mis en ρ m pc (oLald m nx) := by
  intro rec hr dd G L S M r e hG P PX hall
  subst hn
  unfold oLald at e
  split at e
  · obtain ⟨a, ty, n, kk, us, rfl, hM, e2⟩ := arrC_ok e
    split at e2
    · rw [fV_eq] at e2
      obtain ⟨e3, e4⟩ := cond_some e2
      rw [Bool.and_eq_true] at e3
      have k := hr _ _ _ _ _ _ _ _ e4 hG P PX hall
      have hM1 := sdM_at (ρ := ρ) hM
      refine lx_laload d hM1 (svin_ok e3.1) ?_
      rw [← sld_l e3.2]
      exact k
    · cases e2
  · cases e
def oAald (m nx : Nat) : Op := fun rec d G L S M => match S with
  | j :: r :: S1 => conF G j (fun x G1 => arrC M r (fun _ ty n kd us => match kd with
    | 3 => fV (slook (.inl .null) x.toNatClampNeg us) (fun v => match v with
      | .inl (.ref w) => cond (svin x n && ty.isReference) (rec d m G1 nx L (.inl (.ref w) :: S1) M) none
      | .inl .null => cond (svin x n && ty.isReference) (rec d m G1 nx L (.inl .null :: S1) M) none
      | _ => none)
    | _ => none))
  | _ => none
theorem oAald_ok (d : decode (mis m).2.1 pc = .ok (.aaload, 1)) (hn : pc + 1 = nx) : opOK TT cl X mis en ρ m pc (oAald m nx) := by
  intro rec hr dd G L S M r e hG P PX hall
  subst hn
  unfold oAald at e
  split at e
  · rename_i j r0 S1
    obtain ⟨x, h1, G1, r1, e1, h4, j1, j2, j3⟩ := conF_ok hG e
    rw [sd_con h1]
    obtain ⟨a, ty, n, kk, us, rfl, hM, e2⟩ := arrC_ok e1
    split at e2
    · rw [fV_eq] at e2
      split at e2
      · rename_i w hw
        obtain ⟨e3, e4⟩ := cond_some e2
        rw [Bool.and_eq_true] at e3
        have k := gd_of j1 j2 j3 h4 (hr _ _ _ _ _ _ _ _ e4) hG P PX hall
        have hM1 := sdM_at (ρ := ρ) hM
        refine lx_aald e3.2 d hM1 (svin_ok e3.1) ?_
        rw [sfq_at, hw]
        exact k
      · rename_i hw
        obtain ⟨e3, e4⟩ := cond_some e2
        rw [Bool.and_eq_true] at e3
        have k := gd_of j1 j2 j3 h4 (hr _ _ _ _ _ _ _ _ e4) hG P PX hall
        have hM1 := sdM_at (ρ := ρ) hM
        refine lx_aald e3.2 d hM1 (svin_ok e3.1) ?_
        rw [sfq_at, hw]
        exact k
      · cases e2
    · cases e2
  · cases e
def oIast (m nx : Nat) : Op := fun rec d G L S M => match S with
  | v :: j :: r :: S1 => conF G j (fun x G1 => arrC M r (fun i ty n kd us => match ty, kd with
    | .int, 0 => cond (svin x n && sint v) (fN x.toNatClampNeg (fun k => fS (M.set i (.inr (.int, n, 0, (k, v) :: us))) (fun M1 => rec d m G1 nx L S1 M1))) none
    | _, _ => none))
  | _ => none
theorem oIast_ok (d : decode (mis m).2.1 pc = .ok (.iastore, 1)) (hn : pc + 1 = nx) : opOK TT cl X mis en ρ m pc (oIast m nx) := by
  intro rec hr dd G L S M r e hG P PX hall
  subst hn
  unfold oIast at e
  split at e
  · rename_i v j r0 S1
    obtain ⟨x, h1, G1, r1, e1, h4, j1, j2, j3⟩ := conF_ok hG e
    have e9 : sdS ρ (v :: j :: r0 :: S1) = sd ρ v :: sdS ρ (.inl (.int x) :: r0 :: S1) := by rw [← sd_con h1]; rfl
    rw [e9]
    obtain ⟨a, ty, n, kk, us, rfl, hM, e2⟩ := arrC_ok e1
    split at e2
    · obtain ⟨e3, e4⟩ := cond_some e2
      rw [Bool.and_eq_true] at e3
      rw [fN_eq, fS_eq] at e4
      have k := gd_of j1 j2 j3 h4 (hr _ _ _ _ _ _ _ _ e4) hG P PX hall
      have hM1 := sdM_at (ρ := ρ) hM
      have hy := sint_eq (ρ := ρ) e3.2
      rw [sdM_set] at k
      have k2 := lx_iastore d hM1 (svin_ok e3.1) k
      rw [← hy] at k2
      exact k2
    · cases e2
  · cases e
def oLast (m nx : Nat) : Op := fun rec d G L S M => match S with
  | v :: .inl (.int x) :: r :: S1 => arrC M r (fun i ty n kd us => match ty, kd with
    | .long, 1 => cond (svin x n && svty 1 v) (fN x.toNatClampNeg (fun k => fS (M.set i (.inr (.long, n, 1, (k, v) :: us))) (fun M1 => rec d m G nx L S1 M1))) none
    | _, _ => none)
  | _ => none
theorem oLast_ok (d : decode (mis m).2.1 pc = .ok (.lastore, 1)) (hn : pc + 1 = nx) : opOK TT cl X mis en ρ m pc (oLast m nx) := by
  intro rec hr dd G L S M r e hG P PX hall
  subst hn
  unfold oLast at e
  split at e
  · obtain ⟨a, ty, n, kk, us, rfl, hM, e2⟩ := arrC_ok e
    split at e2
    · obtain ⟨e3, e4⟩ := cond_some e2
      rw [Bool.and_eq_true] at e3
      rw [fN_eq, fS_eq] at e4
      have k := hr _ _ _ _ _ _ _ _ e4 hG P PX hall
      have hM1 := sdM_at (ρ := ρ) hM
      have hy := slng_eq (ρ := ρ) e3.2
      rw [sdM_set] at k
      have k2 := lx_lastore d hM1 (svin_ok e3.1) k
      rw [← hy] at k2
      exact k2
    · cases e2
  · cases e
def oCast2 (m nx : Nat) : Op := fun rec d G L S M => match S with
  | .inl (.int y) :: .inl (.int x) :: r :: S1 => arrC M r (fun i ty n kd us => match ty, kd with
    | .char, 0 => cond (svin x n) (fN x.toNatClampNeg (fun k => fI (vp_nar .char y) (fun y1 => fS (M.set i (.inr (.char, n, 0, (k, .inl (.int y1)) :: us))) (fun M1 => rec d m G nx L S1 M1)))) none
    | _, _ => none)
  | _ => none
theorem oCast2_ok (d : decode (mis m).2.1 pc = .ok (.castore, 1)) (hn : pc + 1 = nx) : opOK TT cl X mis en ρ m pc (oCast2 m nx) := by
  intro rec hr dd G L S M r e hG P PX hall
  subst hn
  unfold oCast2 at e
  split at e
  · obtain ⟨a, ty, n, kk, us, rfl, hM, e2⟩ := arrC_ok e
    split at e2
    · obtain ⟨e3, e4⟩ := cond_some e2
      rw [fN_eq, fI_eq, fS_eq] at e4
      have k := hr _ _ _ _ _ _ _ _ e4 hG P PX hall
      have hM1 := sdM_at (ρ := ρ) hM
      rw [sdM_set] at k
      exact lx_castore d hM1 (svin_ok e3) k
    · cases e2
  · cases e
def oAast (m nx : Nat) (cs : List Nat) (tt : FieldType) : Op := fun rec d G L S M => match S with
  | v :: .inl (.int x) :: r :: S1 => objC M v (fun w c _ => arrC M r (fun i ty n kd us => match kd with
    | 3 => cond (svin x n && cs.any (Nat.beq c) && decide (ty = tt)) (fN x.toNatClampNeg (fun k => fS (M.set i (.inr (ty, n, 3, (k, .inl (.ref w)) :: us))) (fun M1 => rec d m G nx L S1 M1))) none
    | _ => none))
  | _ => none
theorem oAast_ok {cs : List Nat} {tt : FieldType} (hk : ∀ ci, ci ∈ cs → kAst TT cl X (mis m) pc ci tt) (hn : pc + 1 = nx) : opOK TT cl X mis en ρ m pc (oAast m nx cs tt) := by
  intro rec hr dd G L S M r e hG P PX hall
  subst hn
  unfold oAast at e
  split at e
  · obtain ⟨w, c, fs, rfl, hO, e1⟩ := objC_ok e
    obtain ⟨a, ty, n, kk, us, rfl, hM, e2⟩ := arrC_ok e1
    split at e2
    · obtain ⟨e3, e4⟩ := cond_some e2
      simp only [Bool.and_eq_true] at e3
      obtain ⟨⟨e5, e6⟩, e7⟩ := e3
      obtain ⟨c1, e61, e62⟩ := List.any_eq_true.mp e6
      cases Nat.eq_of_beq_eq_true e62
      have e8 : ty = tt := of_decide_eq_true e7
      subst e8
      rw [fN_eq, fS_eq] at e4
      have k := hr _ _ _ _ _ _ _ _ e4 hG P PX hall
      have hM1 := sdM_at (ρ := ρ) hM
      have hO1 := sdM_at (ρ := ρ) hO
      rw [sdM_set] at k
      exact hk _ e61 _ _ P PX _ _ _ _ _ _ _ _ _ _ _ hM1 hO1 (svin_ok e5) k
    · cases e2
  · cases e
def oAcmp (m nx tgt : Nat) (eq : Bool) : Op := fun rec d G L S M => match S with
  | .inl (.retAddr k) :: .inl (.retAddr j) :: S1 => cond (Nat.beq j k && !Nat.beq j 0) (rec d m G (cond eq tgt nx) L S1 M) none
  | _ => none
theorem oAcmp_ok {off : Int} {tgt : Nat} (d : decode (mis m).2.1 pc = .ok (.if_acmp .eq off, 3)) (ht : (pc : Int) + off = (tgt : Int)) : opOK TT cl X mis en ρ m pc (oAcmp m nx tgt true) := by
  intro rec hr dd G L S M r e hG P PX hall
  unfold oAcmp at e
  split at e
  · obtain ⟨e2, e3⟩ := cond_some e
    rw [Bool.and_eq_true] at e2
    cases Nat.eq_of_beq_eq_true e2.1
    have h0 := e2.2
    refine lx_acmp_same d ht (fun q => ?_) ?_
    · subst q; cases h0
    · exact hr _ _ _ _ _ _ _ _ e3 hG P PX hall
  · cases e
theorem oAcmpN_ok {off : Int} {tgt : Nat} (d : decode (mis m).2.1 pc = .ok (.if_acmp .ne off, 3)) (ht : (pc : Int) + off = (tgt : Int)) (hn : pc + 3 = nx) : opOK TT cl X mis en ρ m pc (oAcmp m nx tgt false) := by
  intro rec hr dd G L S M r e hG P PX hall
  subst hn
  unfold oAcmp at e
  split at e
  · obtain ⟨e2, e3⟩ := cond_some e
    rw [Bool.and_eq_true] at e2
    cases Nat.eq_of_beq_eq_true e2.1
    have h0 := e2.2
    refine lx_acmp_same d ht (fun q => ?_) ?_
    · subst q; cases h0
    · exact hr _ _ _ _ _ _ _ _ e3 hG P PX hall
  · cases e
end FX3
