section FX4
variable {TT : List Cond} {cl : List vw_C} {X : XT} {mis : Nat → MI} {en : Nat → String} {ρ : Nat → Int32} {m pc nx : Nat} {i : Instr} {len : Nat}
/-- the end of a method: with a word -/
def oRet (ty : FieldType) (t : Nat) : Op := fun _ _ G _ S M => match S with
  | [v] => cond (svty t v && (!Nat.beq t 0 || (snar ty v && sint v))) (some ([(G, .inl (some v), M)], 0, 0)) none
  | _ => none
def srk (i : Instr) : Option Nat := match i with
  | .ireturn => some 0
  | .lreturn => some 1
  | .freturn => some 2
  | .dreturn => some 3
  | .areturn => some 4
  | _ => none
def srt (t : Nat) (ty : FieldType) : Bool := match t, ty with
  | 0, _ => true
  | 1, .long => true
  | 2, .float => true
  | 3, .double => true
  | 4, .object _ => true
  | 4, .array _ => true
  | _, _ => false
theorem oRet_ok {t : Nat} {ty : FieldType} (hi : srk i = some t) (ht : srt t ty = true) (d : decode (mis m).2.1 pc = .ok (i, 1)) (hrt : (mis m).2.2.2.1 = some ty) : opOK TT cl X mis en ρ m pc (oRet ty t) := by
  intro rec hr dd G L S M r e hG P PX hall
  unfold oRet at e
  split at e
  · obtain ⟨e2, e3⟩ := cond_some e
    cases e3
    have hp := hall _ (List.mem_singleton.mpr rfl) hG
    rw [Bool.and_eq_true, Bool.or_eq_true] at e2
    have hv := svty_ok (ρ := ρ) e2.1
    unfold srk at hi
    split at hi
    · cases hi
      have e4 := e2.2.resolve_left (by decide)
      rw [Bool.and_eq_true] at e4
      obtain ⟨x, hx⟩ := sint_ok (ρ := ρ) e4.2
      have hn := snar_ok (ρ := ρ) e4.1
      rw [hx] at hn
      have e9 : ∀ v : sV, sd ρ v = .int x → sdS ρ [v] = [.int x] := fun v hv => by show [sd ρ v] = _; rw [hv]
      rw [e9 _ hx]
      refine lx_ireturn d hrt hn ?_
      rw [← hx]; exact hp
    · cases hi
      obtain ⟨x, hx⟩ := vty_1 hv
      have e9 : ∀ v : sV, sd ρ v = .long x → sdS ρ [v] = [.long x] := fun v hv => by show [sd ρ v] = _; rw [hv]
      rw [e9 _ hx]
      unfold srt at ht
      split at ht <;> first | (cases ht; done) | skip
      all_goals first | (rename_i h0; cases h0; done) | (rename_i h0 _; cases h0; done) | skip
      refine lx_lreturn d hrt ?_
      rw [← hx]; exact hp
    · cases hi
      obtain ⟨x, hx⟩ := vty_2 hv
      have e9 : ∀ v : sV, sd ρ v = .float x → sdS ρ [v] = [.float x] := fun v hv => by show [sd ρ v] = _; rw [hv]
      rw [e9 _ hx]
      unfold srt at ht
      split at ht <;> first | (cases ht; done) | skip
      all_goals first | (rename_i h0; cases h0; done) | (rename_i h0 _; cases h0; done) | skip
      refine lx_freturn d hrt ?_
      rw [← hx]; exact hp
    · cases hi
      obtain ⟨x, hx⟩ := vty_3 hv
      have e9 : ∀ v : sV, sd ρ v = .double x → sdS ρ [v] = [.double x] := fun v hv => by show [sd ρ v] = _; rw [hv]
      rw [e9 _ hx]
      unfold srt at ht
      split at ht <;> first | (cases ht; done) | skip
      all_goals first | (rename_i h0; cases h0; done) | (rename_i h0 _; cases h0; done) | skip
      refine lx_dreturn d hrt ?_
      rw [← hx]; exact hp
    · cases hi
      have key : (∃ n, ty = .object n) ∨ ∃ t, ty = .array t := by
        unfold srt at ht
        split at ht <;> first | (cases ht; done) | skip
        all_goals first | (rename_i h0; cases h0; done) | (rename_i h0 _; cases h0; done) | skip
        · exact Or.inl ⟨_, rfl⟩
        · exact Or.inr ⟨_, rfl⟩
      exact lx_areturn d hrt key (vty_4 hv) hp
    · cases hi
  · cases e
def oRet0 : Op := fun _ _ G _ S M => match S with
  | [] => some ([(G, .inl none, M)], 0, 0)
  | _ => none
theorem oRet0_ok (d : decode (mis m).2.1 pc = .ok (.return_, 1)) (hrt : (mis m).2.2.2.1 = none) : opOK TT cl X mis en ρ m pc oRet0 := by
  intro rec hr dd G L S M r e hG P PX hall
  unfold oRet0 at e
  split at e
  · cases e
    exact lx_return d hrt (hall _ (List.mem_singleton.mpr rfl) hG)
  · cases e
/-- throw new E("..") -/
def oThrow (E kf kl : Nat) : Op := fun _ _ G _ S M => cond (Nat.ble kf 40 && Nat.ble ((S.map scat).sum + kl) 1000) (some ([(G, .inr E, M)], 1, 6)) none
theorem oThrow_ok {E kf kl : Nat} (hk : kThr TT cl X (mis m) pc (en E) kf kl) : opOK TT cl X mis en ρ m pc (oThrow E kf kl) := by
  intro rec hr dd G L S M r e hG P PX hall
  unfold oThrow at e
  obtain ⟨e2, e3⟩ := cond_some e
  cases e3
  rw [Bool.and_eq_true] at e2
  have h1 := Nat.le_of_ble_eq_true e2.1
  have h2 := Nat.le_of_ble_eq_true e2.2
  exact hk _ _ P PX 0 0 _ _ _ (by omega) (by rw [sdS_sum]; omega) (hall _ (List.mem_singleton.mpr rfl) hG)
def oObj (m nx : Nat) : Op := fun rec d G L S M => match S with
  | .inl (.ref _) :: S1 => cond (Nat.ble ((S1.map scat).sum) 900) (rec d m G nx L S1 M) none
  | _ => none
theorem oObj_ok (hk : kObj TT cl X (mis m) pc) (hn : pc + 3 = nx) : opOK TT cl X mis en ρ m pc (oObj m nx) := by
  intro rec hr dd G L S M r e hG P PX hall
  subst hn
  unfold oObj at e
  split at e
  · obtain ⟨e2, e3⟩ := cond_some e
    have h2 := Nat.le_of_ble_eq_true e2
    exact hk _ _ P PX _ _ _ _ _ _ (by omega) (by show ((sdS ρ _).map fun v => v.category).sum + 12 ≤ _; rw [sdS_sum]; omega) (hr _ _ _ _ _ _ _ _ e3 hG P PX hall)
  · cases e
-- ===== calls =====
abbrev RunK : Type := RK → Nat → sG → List sV → List sE → Option sR
def runC (y : Nat) : RunK := fun rec d1 G a M => argsC 0 a (fun L0 => rec d1 y G 0 L0 [] M)
def rcv (t rc : Nat) (M : List sE) (a : List sV) : Bool := match t with
  | 1 => true
  | 4 => true
  | 3 => (match a with
    | .inl (.ref _) :: _ => true
    | _ => false)
  | _ => (match a with
    | .inl (.ref j) :: _ => (match M[j]? with
      | some (.inl (ci, _)) => Nat.beq ci rc
      | _ => false)
    | _ => false)
theorem rcv2_ok {t rc : Nat} {M : List sE} {a : List sV} (h : rcv t rc M a = true) (ht : t = 2 ∨ t = 5) : ∃ (i : Nat) (fs : List Value) (a1 : List Value), sdS ρ a = .ref i :: a1 ∧ (sdM ρ M)[i]? = some (.inr (rc, fs)) := by
  have key : ∀ b : List sV, (match b with
    | .inl (.ref j) :: _ => (match M[j]? with
      | some (.inl (ci, _)) => Nat.beq ci rc
      | _ => false)
    | _ => false) = true → ∃ (i : Nat) (fs : List Value) (a1 : List Value), sdS ρ b = .ref i :: a1 ∧ (sdM ρ M)[i]? = some (.inr (rc, fs)) := by
    intro b hb
    split at hb
    · split at hb
      · rename_i hM
        cases Nat.eq_of_beq_eq_true hb
        exact ⟨_, _, _, rfl, sdM_at (ρ := ρ) hM⟩
      · cases hb
    · cases hb
  rcases ht with rfl | rfl
  · exact key a h
  · exact key a h
theorem rcv3_ok {rc : Nat} {M : List sE} {a : List sV} (h : rcv 3 rc M a = true) : ∃ (i : Nat) (a1 : List Value), sdS ρ a = .ref i :: a1 := by
  have key : ∀ b : List sV, (match b with
    | .inl (.ref _) :: _ => true
    | _ => false) = true → ∃ (i : Nat) (a1 : List Value), sdS ρ b = .ref i :: a1 := by
    intro b hb
    split at hb
    · exact ⟨_, _, rfl⟩
    · cases hb
  exact key a h
def contF (rec : RK) (hd : Nat → Option (Option Nat)) (d m nx : Nat) (L : List (Nat × sV)) (S : List sV) (lf : sF) : Option sR := match lf with
  | (G1, .inl none, M1) => rec d m G1 nx L S M1
  | (G1, .inl (some v), M1) => rec d m G1 nx L (v :: S) M1
  | (G1, .inr E, M1) => (match hd E with
    | some (some h) => rec d m G1 h L [.inl (.retAddr 0)] M1
    | some none => some ([(G1, .inr E, M1)], 0, 0)
    | none => none)
def oCall (run : RunK) (m nx t n rc ml : Nat) (hd : Nat → Option (Option Nat)) : Op := fun rec d G L S M => match d with
  | 0 => none
  | d1 + 1 => takeR (fun a S1 => cond (rcv t rc M a && Nat.ble ((S1.map scat).sum) 8 && Nat.ble (swid a) ml)
      (match run rec d1 G a M with
        | none => none
        | some r => cond (snt t && r.1.any sexc) none (ad2 r.2.1 r.2.2 (fJ (contF rec hd d m nx L S1) r.1))) none) n [] S
def runOK (TT : List Cond) (cl : List vw_C) (X : XT) (mis : Nat → MI) (en : Nat → String) (ρ : Nat → Int32) (y : Nat) (run : RunK) : Prop :=
  ∀ rec, rGood TT cl X mis en ρ rec → ∀ d1 G a M r, run rec d1 G a M = some r → swid a ≤ (mis y).2.2.1 → sSat ρ G →
    ∀ (P : Option Value → mH → Prop) (PX : String → mH → Prop), (∀ lf, lf ∈ r.1 → sSat ρ lf.1 → slf ρ en P PX lf) → EV TT cl X (mis y) (40 + d1) (1000 + 200 * d1) r.2.1 r.2.2 (sdS ρ a) (sdM ρ M) P PX
theorem runC_ok {y : Nat} (hX : mj_XOK X) (hpl : plainName (mis y).1.cls = true) : runOK TT cl X mis en ρ y (runC y) := by
  intro rec hr d1 G a M r e hw hG P PX hall
  unfold runC at e
  rw [argsC_eq] at e
  refine ev_of hX hpl (by rw [swid_ok]; exact hw) ?_
  rw [sargs_ok]
  exact hr _ _ _ _ _ _ _ _ e hG P PX hall
theorem oCall_ok {run : RunK} {y t n rc ml : Nat} {hd : Nat → Option (Option Nat)} (hrun : runOK TT cl X mis en ρ y run) (hk : kCall TT cl X (mis m) pc len (mis y) t n rc) (hml : (mis y).2.2.1 = ml) (hml2 : ml ≤ 150) (hn : pc + len = nx)
    (hhd : ∀ (E : Nat) (o : Option Nat), hd E = some o → ∀ (fr lo : Nat) (P : Option Value → mH → Prop) (PX : String → mH → Prop) (kc ks : Nat) (L : List (Nat × Value)) (M : mH), match o with
      | some h => LX TT cl X (mis m) fr lo P PX kc ks h L [.retAddr 0] M → LT TT cl X (mis m) fr lo P PX kc ks pc L (en E) M
      | none => PX (en E) M → LT TT cl X (mis m) fr lo P PX kc ks pc L (en E) M) : opOK TT cl X mis en ρ m pc (oCall run m nx t n rc ml hd) := by
  intro rec hr dd G L S M r e hG P PX hall
  subst hn
  subst hml
  unfold oCall at e
  split at e
  · cases e
  · rename_i d1
    obtain ⟨hnS, e1⟩ := takeR_ok e
    rw [List.append_nil] at e1
    obtain ⟨hc, e2⟩ := cond_some e1
    simp only [Bool.and_eq_true] at hc
    obtain ⟨⟨hc1, hc2⟩, hc3⟩ := hc
    have hc2 := Nat.le_of_ble_eq_true hc2
    have hc3 := Nat.le_of_ble_eq_true hc3
    split at e2
    · cases e2
    · rename_i r1 hr1
      cases hnt : (snt t && r1.1.any sexc) with
      | true => rw [hnt] at e2; cases e2
      | false =>
        rw [hnt] at e2
        obtain ⟨q, hq, rfl⟩ := ad2_some e2
        have hj := fJ_ok hq
        have hev : ∀ (P1 : Option Value → mH → Prop) (PX1 : String → mH → Prop), (∀ lf, lf ∈ r1.1 → sSat ρ lf.1 → slf ρ en P1 PX1 lf) → EV TT cl X (mis y) (40 + d1) (1000 + 200 * d1) r1.2.1 r1.2.2 (sdS ρ (S.take n).reverse) (sdM ρ M) P1 PX1 :=
          fun P1 PX1 hP1 => hrun rec hr _ _ _ _ _ hr1 hc3 hG P1 PX1 hP1
        have k := hk (40 + (d1 + 1)) (1000 + 200 * (d1 + 1)) (40 + d1) (1000 + 200 * d1) P PX (fun v M1 => ∃ lf, lf ∈ r1.1 ∧ sSat ρ lf.1 ∧ ∃ v1, lf.2.1 = .inl v1 ∧ v = v1.map (sd ρ) ∧ M1 = sdM ρ lf.2.2) (fun E M1 => ∃ lf, lf ∈ r1.1 ∧ sSat ρ lf.1 ∧ ∃ E1, lf.2.1 = .inr E1 ∧ E = en E1 ∧ M1 = sdM ρ lf.2.2)
          q.2.1 q.2.2 r1.2.1 r1.2.2 (sdL ρ L) (sdS ρ (S.drop n)) (sdM ρ M) (sdS ρ (S.take n).reverse)
          (by unfold sdS; rw [List.length_map, List.length_reverse, List.length_take]; omega) (rcv2_ok hc1) (fun h3 => by rw [h3] at hc1; exact rcv3_ok hc1)
          (fun hnt1 E M1 hz => by
            obtain ⟨lf, z1, z2, E1, z3, z4, z5⟩ := hz
            rw [hnt1, Bool.true_and] at hnt
            have : r1.1.any sexc = true := List.any_eq_true.mpr ⟨lf, z1, by unfold sexc; rw [z3]⟩
            rw [this] at hnt
            cases hnt)
          (hev _ _ (fun lf z1 z2 => by
            unfold slf
            split
            · rename_i v1 hv1; exact ⟨lf, z1, z2, v1, hv1, rfl, rfl⟩
            · rename_i E1 hE1; exact ⟨lf, z1, z2, E1, hE1, rfl, rfl⟩))
          ⟨by omega, by omega⟩ (by rw [sdS_sum]; exact hc2)
          (fun E M1 hz => by
            obtain ⟨lf, z1, z2, E1, z3, z4, z5⟩ := hz
            subst z4; subst z5
            obtain ⟨o, ho, j1, j2, j3⟩ := hj _ z1
            obtain ⟨G1, out, M2⟩ := lf
            cases z3
            dsimp only [contF] at ho
            split at ho
            · rename_i h9 hh
              refine hhd _ _ hh _ _ P PX _ _ _ _ ?_
              exact gd_of j1 j2 j3 z2 (hr _ _ _ _ _ _ _ _ ho) hG P PX hall
            · rename_i hh
              cases ho
              exact hhd _ _ hh _ _ P PX _ _ _ _ (hall _ (j1 _ (List.mem_singleton.mpr rfl)) z2)
            · cases ho)
          (fun v M1 hz => by
            obtain ⟨lf, z1, z2, v1, z3, z4, z5⟩ := hz
            subst z4; subst z5
            obtain ⟨o, ho, j1, j2, j3⟩ := hj _ z1
            obtain ⟨G1, out, M2⟩ := lf
            cases z3
            cases v1 with
            | none => exact gd_of j1 j2 j3 z2 (hr _ _ _ _ _ _ _ _ (show rec (d1 + 1) m G1 (pc + len) L (S.drop n) M2 = some o from ho)) hG P PX hall
            | some v1 => exact gd_of j1 j2 j3 z2 (hr _ _ _ _ _ _ _ _ (show rec (d1 + 1) m G1 (pc + len) L (v1 :: S.drop n) M2 = some o from ho)) hG P PX hall)
        rw [← sdS_rev, ← sdS_app, List.reverse_reverse, List.take_append_drop] at k
        refine lx_room ?_ ?_ k
        · dsimp only; omega
        · dsimp only; omega
end FX4
