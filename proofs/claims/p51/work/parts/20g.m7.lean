section HP3
variable {TT : List Cond} {cl : List vw_C} {X : XT} {mi ci : MI} {fr lo : Nat} {D : mF} {P : Option Value → mF → Prop} {PX : String → mF → Prop} {kc ks pc : Nat} {L : List (Nat × Value)} {S : List Value} {sh : sM} {I : mI} {J : mJ} {h : mF}
abbrev pst (Q : Option Value → sM → mI → mJ → Prop) : Option Value → mF → Prop := fun v h => ∃ sh I J, h = hp sh I J ∧ Q v sh I J
abbrev psx (Qx : String → sM → mI → mJ → Prop) : String → mF → Prop := fun E h => ∃ sh I J, h = hp sh I J ∧ Qx E sh I J
def EVs (TT : List Cond) (cl : List vw_C) (X : XT) (mi : MI) (lev kc ks : Nat) (a : List Value) (sh : sM) (I : mI) (J : mJ) (Q : Option Value → sM → mI → mJ → Prop) (Qx : String → sM → mI → mJ → Prop) : Prop :=
  EVf TT cl X mi (40 + lev) (1000 + 200 * lev) kc ks a (hp sh I J) (pst Q) (psx Qx)
/-- no throw, the shapes stay, nothing is made -/
def EVm (TT : List Cond) (cl : List vw_C) (X : XT) (mi : MI) (lev : Nat) (a : List Value) (sh : sM) (I : mI) (J : mJ) (F : Option Value → mI → mJ → Prop) : Prop :=
  EVs TT cl X mi lev 0 0 a sh I J (fun v s I1 J1 => s = sh ∧ F v I1 J1) (fun _ _ _ _ => False)
/-- it only answers -/
def EVp (TT : List Cond) (cl : List vw_C) (X : XT) (mi : MI) (lev : Nat) (a : List Value) (sh : sM) (I : mI) (J : mJ) (r : Value) : Prop :=
  EVm TT cl X mi lev a sh I J (fun v I1 J1 => v = some r ∧ I1 = I ∧ J1 = J)
/-- it throws, and leaves all as it was -/
def EVt (TT : List Cond) (cl : List vw_C) (X : XT) (mi : MI) (lev : Nat) (a : List Value) (sh : sM) (I : mI) (J : mJ) (E : String) : Prop :=
  EVs TT cl X mi lev 1 6 a sh I J (fun _ _ _ _ => False) (fun E1 s I1 J1 => E1 = E ∧ s = sh ∧ I1 = I ∧ J1 = J)
/-- it makes things, and doesn't throw -/
def EVa (TT : List Cond) (cl : List vw_C) (X : XT) (mi : MI) (lev kc ks : Nat) (a : List Value) (sh : sM) (I : mI) (J : mJ) (F : Option Value → sM → mI → mJ → Prop) : Prop :=
  EVs TT cl X mi lev kc ks a sh I J F (fun _ _ _ _ => False)
theorem gw_enter {lev : Nat} {a : List Value} {Q : Option Value → sM → mI → mJ → Prop} {Qx : String → sM → mI → mJ → Prop} (hX : mj_XOK X) (hpl : plainName mi.1.cls = true) (hw : (lg_sl a).length ≤ mi.2.2.1) (hL : lv_args 0 a = L)
    (k : LXf TT cl X mi (40 + lev) (1000 + 200 * lev) (hp sh I J) (pst Q) (psx Qx) kc ks 0 L [] (hp sh I J)) : EVs TT cl X mi lev kc ks a sh I J Q Qx := by
  subst hL
  exact evf_of hX hpl hw k
def gcR (sh : sM) (a : List Value) (t rc : Nat) : Prop := ((t = 2 ∨ t = 5) → ∃ (i : Nat) (fs a1 : List Value), a = .ref i :: a1 ∧ sh i = some (.inr (rc, fs))) ∧ (t = 3 → ∃ (i : Nat) (a1 : List Value), a = .ref i :: a1)
theorem gcR_1 {a : List Value} {rc : Nat} : gcR sh a 1 rc := ⟨fun q => absurd q (by decide), fun q => absurd q (by decide)⟩
theorem gcR_4 {a : List Value} {rc : Nat} : gcR sh a 4 rc := ⟨fun q => absurd q (by decide), fun q => absurd q (by decide)⟩
theorem gcR_3 {i : Nat} {a : List Value} {rc : Nat} : gcR sh (.ref i :: a) 3 rc := ⟨fun q => absurd q (by decide), fun _ => ⟨i, a, rfl⟩⟩
theorem gcR_2 {i : Nat} {a fs : List Value} {rc : Nat} (hs : sh i = some (.inr (rc, fs))) : gcR sh (.ref i :: a) 2 rc := ⟨fun _ => ⟨i, fs, a, rfl, hs⟩, fun q => absurd q (by decide)⟩
theorem gw_call {lev lev1 kc1 ks1 len t n rc : Nat} {a : List Value} {Q1 : Option Value → sM → mI → mJ → Prop} {Qx1 : String → sM → mI → mJ → Prop} (hk : kCall TT cl X mi pc len ci t n rc) (he : EVs TT cl X ci lev1 kc1 ks1 a sh I J Q1 Qx1) (hn : a.length = n) (hrc : gcR sh a t rc) (hlev : lev1 < lev) (hml : ci.2.2.1 ≤ 181) (hst : (S.map fun v => v.category).sum ≤ 8) (hnt : snt t = true → ∀ E s1 I1 J1, ¬ Qx1 E s1 I1 J1)
    (kx : ∀ E s1 I1 J1, Qx1 E s1 I1 J1 → mIn (hp sh I J) (hp s1 I1 J1) → LTf TT cl X mi (40 + lev) (1000 + 200 * lev) D P PX kc ks pc L E (hp s1 I1 J1))
    (kk : ∀ v s1 I1 J1, Q1 v s1 I1 J1 → mIn (hp sh I J) (hp s1 I1 J1) → LXf TT cl X mi (40 + lev) (1000 + 200 * lev) D P PX kc ks (pc + len) L (v.toList ++ S) (hp s1 I1 J1)) :
    LXf TT cl X mi (40 + lev) (1000 + 200 * lev) D P PX (kc1 + kc) (ks1 + ks) pc L (a.reverse ++ S) (hp sh I J) := by
  refine lf_call hk hn (fun q => ?_) hrc.2 (fun q E h1 w => ?_) he (by omega) hst (fun E h1 w hi => ?_) (fun v h1 w hi => ?_)
  · obtain ⟨i, fs, a1, e, hs⟩ := hrc.1 q
    exact ⟨i, fs.mapIdx (fv I J i), a1, e, hp_at hs⟩
  · obtain ⟨s1, I1, J1, -, w⟩ := w
    exact hnt q E s1 I1 J1 w
  · obtain ⟨s1, I1, J1, rfl, w⟩ := w
    exact kx E s1 I1 J1 w hi
  · obtain ⟨s1, I1, J1, rfl, w⟩ := w
    exact kk v s1 I1 J1 w hi
/-- a call that makes things -/
theorem gw_callA {lev lev1 kc0 ks0 kc1 ks1 len t n rc : Nat} {a S0 : List Value} {F : Option Value → sM → mI → mJ → Prop} (hk : kCall TT cl X mi pc len ci t n rc) (he : EVa TT cl X ci lev1 kc1 ks1 a sh I J F) (hS0 : a.reverse ++ S = S0) (hkc : kc1 + kc = kc0) (hks : ks1 + ks = ks0) (hn : a.length = n) (hrc : gcR sh a t rc) (hlev : lev1 < lev) (hml : ci.2.2.1 ≤ 181) (hst : (S.map fun v => v.category).sum ≤ 8)
    (kk : ∀ v s1 I1 J1, F v s1 I1 J1 → mIn (hp sh I J) (hp s1 I1 J1) → LXf TT cl X mi (40 + lev) (1000 + 200 * lev) D P PX kc ks (pc + len) L (v.toList ++ S) (hp s1 I1 J1)) :
    LXf TT cl X mi (40 + lev) (1000 + 200 * lev) D P PX kc0 ks0 pc L S0 (hp sh I J) := by
  subst hS0 hkc hks
  exact gw_call hk he hn hrc hlev hml hst (fun _ _ _ _ _ q => q) (fun _ _ _ _ q => q.elim) kk
theorem gw_callM {lev lev1 len t n rc : Nat} {a S0 : List Value} {F : Option Value → mI → mJ → Prop} (hk : kCall TT cl X mi pc len ci t n rc) (he : EVm TT cl X ci lev1 a sh I J F) (hS0 : a.reverse ++ S = S0) (hn : a.length = n) (hrc : gcR sh a t rc) (hlev : lev1 < lev) (hml : ci.2.2.1 ≤ 181) (hst : (S.map fun v => v.category).sum ≤ 8)
    (kk : ∀ v I1 J1, F v I1 J1 → LXf TT cl X mi (40 + lev) (1000 + 200 * lev) D P PX kc ks (pc + len) L (v.toList ++ S) (hp sh I1 J1)) :
    LXf TT cl X mi (40 + lev) (1000 + 200 * lev) D P PX kc ks pc L S0 (hp sh I J) := by
  refine gw_callA hk he hS0 (Nat.zero_add kc) (Nat.zero_add ks) hn hrc hlev hml hst (fun v s1 I1 J1 w _ => ?_)
  obtain ⟨rfl, w⟩ := w
  exact kk v I1 J1 w
theorem gw_callP {lev lev1 len t n rc : Nat} {a S0 : List Value} {r : Value} (hk : kCall TT cl X mi pc len ci t n rc) (he : EVp TT cl X ci lev1 a sh I J r) (hS0 : a.reverse ++ S = S0) (hn : a.length = n) (hrc : gcR sh a t rc) (hlev : lev1 < lev) (hml : ci.2.2.1 ≤ 181) (hst : (S.map fun v => v.category).sum ≤ 8)
    (kk : LXf TT cl X mi (40 + lev) (1000 + 200 * lev) D P PX kc ks (pc + len) L (r :: S) (hp sh I J)) :
    LXf TT cl X mi (40 + lev) (1000 + 200 * lev) D P PX kc ks pc L S0 (hp sh I J) := by
  refine gw_callM hk he hS0 hn hrc hlev hml hst (fun v I1 J1 w => ?_)
  obtain ⟨rfl, rfl, rfl⟩ := w
  exact kk
/-- a call that throws -/
theorem gw_callT {lev lev1 len t n rc : Nat} {a S0 : List Value} {E : String} (hk : kCall TT cl X mi pc len ci t n rc) (he : EVt TT cl X ci lev1 a sh I J E) (hS0 : a.reverse ++ S = S0) (hn : a.length = n) (hrc : gcR sh a t rc) (hlev : lev1 < lev) (hml : ci.2.2.1 ≤ 181) (hst : (S.map fun v => v.category).sum ≤ 8) (hnt : snt t = false)
    (kx : LTf TT cl X mi (40 + lev) (1000 + 200 * lev) D P PX kc ks pc L E (hp sh I J)) :
    LXf TT cl X mi (40 + lev) (1000 + 200 * lev) D P PX (kc + 1) (ks + 6) pc L S0 (hp sh I J) := by
  subst hS0
  rw [Nat.add_comm kc, Nat.add_comm ks]
  refine gw_call hk he hn hrc hlev hml hst (fun q => by rw [hnt] at q; cases q) (fun E1 s1 I1 J1 w _ => ?_) (fun _ _ _ _ q => q.elim)
  obtain ⟨rfl, rfl, rfl, rfl⟩ := w
  exact kx
theorem rnS_sum {π : Nat → Nat} : ((rnS π S).map fun v => v.category).sum = (S.map fun v => v.category).sum := by
  unfold rnS
  rw [List.map_map]
  congr 1
  exact List.map_congr_left (fun v _ => rnV_cat)
theorem gw_thr {lev kf kl : Nat} {E : String} (hk : kThr TT cl X mi pc E kf kl) (hf : kf ≤ 40 ∧ kl ≤ 900) (hst : (S.map fun v => v.category).sum ≤ 8) (hq : PX E h) : LXf TT cl X mi (40 + lev) (1000 + 200 * lev) D P PX (kc + 1) (ks + 6) pc L S h := by
  intro π0 π M hR hL hS hA hI
  refine hk _ _ _ _ kc ks _ _ M (by omega) ?_ ⟨π, h, hq, hR, hA, hI⟩
  rw [rnS_sum]
  omega
theorem gw_obj {lev i : Nat} (hk : kObj TT cl X mi pc) (hst : (S.map fun v => v.category).sum ≤ 8) (kk : LXf TT cl X mi (40 + lev) (1000 + 200 * lev) D P PX kc ks (pc + 3) L S h) : LXf TT cl X mi (40 + lev) (1000 + 200 * lev) D P PX kc ks pc L (.ref i :: S) h := by
  intro π0 π M hR hL hS hA hI
  refine hk _ _ _ _ kc ks _ _ M (π i) (by omega) ?_ (kk π0 π M hR hL (mcS_cons.mp hS).2 hA hI)
  have e9 := rnS_sum (π := π) (S := S)
  unfold rnS at e9
  rw [e9]
  omega
theorem gw_iret {Q : Option Value → sM → mI → mJ → Prop} {x : Int} (d : decode mi.2.1 pc = .ok (.ireturn, 1)) (hr : mi.2.2.2.1 = some .int) (hq : Q (some (.int (Int32.ofInt x))) sh I J) : LXf TT cl X mi fr lo D (pst Q) PX kc ks pc L [.int (Int32.ofInt x)] (hp sh I J) := lf_ireturn d hr rfl ⟨sh, I, J, rfl, hq⟩
theorem gw_zret {Q : Option Value → sM → mI → mJ → Prop} {x : Int} (d : decode mi.2.1 pc = .ok (.ireturn, 1)) (hr : mi.2.2.2.1 = some .boolean) (hx : x = 0 ∨ x = 1) (hq : Q (some (.int (Int32.ofInt x))) sh I J) : LXf TT cl X mi fr lo D (pst Q) PX kc ks pc L [.int (Int32.ofInt x)] (hp sh I J) := lf_ireturn d hr (by rcases hx with rfl | rfl <;> rfl) ⟨sh, I, J, rfl, hq⟩
theorem oi_cn {x : Int} (hx : 0 ≤ x ∧ x < 65536) : narrow .char (.int (Int32.ofInt x)) = .int (Int32.ofInt x) := by
  have e := oi_c hx
  unfold vp_nar at e
  split at e
  · rename_i y hy
    rw [hy, e]
  · rename_i hy
    exact absurd rfl (hy _)
theorem gw_cret {Q : Option Value → sM → mI → mJ → Prop} {x : Int} (d : decode mi.2.1 pc = .ok (.ireturn, 1)) (hr : mi.2.2.2.1 = some .char) (hx : 0 ≤ x ∧ x < 65536) (hq : Q (some (.int (Int32.ofInt x))) sh I J) : LXf TT cl X mi fr lo D (pst Q) PX kc ks pc L [.int (Int32.ofInt x)] (hp sh I J) := lf_ireturn d hr (oi_cn hx) ⟨sh, I, J, rfl, hq⟩
theorem gw_lret {Q : Option Value → sM → mI → mJ → Prop} {x : Int64} (d : decode mi.2.1 pc = .ok (.lreturn, 1)) (hr : mi.2.2.2.1 = some .long) (hq : Q (some (.long x)) sh I J) : LXf TT cl X mi fr lo D (pst Q) PX kc ks pc L [.long x] (hp sh I J) := lf_lreturn d hr ⟨sh, I, J, rfl, hq⟩
theorem gw_ret {Q : Option Value → sM → mI → mJ → Prop} (d : decode mi.2.1 pc = .ok (.return_, 1)) (hr : mi.2.2.2.1 = none) (hq : Q none sh I J) : LXf TT cl X mi fr lo D (pst Q) PX kc ks pc L [] (hp sh I J) := lf_return d hr ⟨sh, I, J, rfl, hq⟩
theorem gw_aret {Q : Option Value → sM → mI → mJ → Prop} {i : Nat} {rt : FieldType} (d : decode mi.2.1 pc = .ok (.areturn, 1)) (hr : mi.2.2.2.1 = some rt) (hrt : (∃ n, rt = .object n) ∨ ∃ t, rt = .array t) (hq : Q (some (.ref i)) sh I J) : LXf TT cl X mi fr lo D (pst Q) PX kc ks pc L [.ref i] (hp sh I J) := lf_areturn d hr hrt rfl ⟨sh, I, J, rfl, hq⟩
/-- what is thrown leaves the method -/
theorem gt_out {Qx : String → sM → mI → mJ → Prop} {E : String} (ho : mi.2.2.2.2 = []) (hq : Qx E sh I J) : LTf TT cl X mi fr lo D P (psx Qx) kc ks pc L E (hp sh I J) :=
  ltf_out (by rw [ho]; exact fun x h => absurd h List.not_mem_nil) ⟨sh, I, J, rfl, hq⟩
-- ===== forgetting =====
def mCl (h : mF) : Prop := ∀ i e, h i = some e → mcE h e
theorem lf_cl (k : mCl h → LXf TT cl X mi fr lo D P PX kc ks pc L S h) : LXf TT cl X mi fr lo D P PX kc ks pc L S h := fun π0 π M hR hL hS hA hI => k hR.2.2 π0 π M hR hL hS hA hI
theorem lf_forget {h1 : mF} (hsub : ∀ i e, h1 i = some e → h i = some e) (hcl : mCl h1) (hL1 : mcL h1 L) (hS1 : mcS h1 S) (hD : mIn D h1) (k : LXf TT cl X mi fr lo D P PX kc ks pc L S h1) : LXf TT cl X mi fr lo D P PX kc ks pc L S h := by
  intro π0 π M hR hL hS hA hI
  have hin : ∀ i, (h1 i).isSome = true → (h i).isSome = true := fun i hi => by
    obtain ⟨e, he⟩ := Option.isSome_iff_exists.mp hi
    rw [hsub i e he]; rfl
  exact k π0 π M ⟨fun i e he => hR.1 i e (hsub i e he), fun i j hi hj => hR.2.1 i j (hin i hi) (hin j hj), hcl⟩ hL1 hS1 hA hD
-- ===== max and min =====
theorem oi_max {x y : Int} (hr : -2147483648 ≤ x ∧ x < 2147483648 ∧ -2147483648 ≤ y ∧ y < 2147483648) : (if Int32.ofInt x < Int32.ofInt y then Int32.ofInt y else Int32.ofInt x) = Int32.ofInt (max x y) := by
  by_cases q : x < y
  · rw [if_pos ((oi_lt (by omega) (by omega)).mpr q), show max x y = y by omega]
  · rw [if_neg (fun e => q ((oi_lt (by omega) (by omega)).mp e)), show max x y = x by omega]
theorem oi_min {x y : Int} (hr : -2147483648 ≤ x ∧ x < 2147483648 ∧ -2147483648 ≤ y ∧ y < 2147483648) : (if Int32.ofInt y < Int32.ofInt x then Int32.ofInt y else Int32.ofInt x) = Int32.ofInt (min x y) := by
  by_cases q : y < x
  · rw [if_pos ((oi_lt (by omega) (by omega)).mpr q), show min x y = y by omega]
  · rw [if_neg (fun e => q ((oi_lt (by omega) (by omega)).mp e)), show min x y = x by omega]
theorem gi_max {index lev : Nat} {x y : Int} (d : decode mi.2.1 pc = .ok (.invokestatic index, 3)) (hl : Cond.methodLink mi.1.cls index Lib.Math.max.name ∈ TT) (hs : Cond.static Lib.Math.max.name ∈ TT) (hi : Cond.initialized "java/lang/Math" ∈ TT) (hc : Cond.code Lib.Math.max.name Lib.Math.max.code 2 (some .int) ∈ TT) (hst : (S.map fun v => v.category).sum ≤ 8) (hr : -2147483648 ≤ x ∧ x < 2147483648 ∧ -2147483648 ≤ y ∧ y < 2147483648)
    (k : LXf TT cl X mi (40 + lev) (1000 + 200 * lev) D P PX kc ks (pc + 3) L (.int (Int32.ofInt (max x y)) :: S) h) : LXf TT cl X mi (40 + lev) (1000 + 200 * lev) D P PX kc ks pc L (.int (Int32.ofInt y) :: .int (Int32.ofInt x) :: S) h := by
  intro π0 π M hR hL hS hA hI
  have g := k π0 π M hR hL (mcS_cons.mpr ⟨trivial, (mcS_cons.mp (mcS_cons.mp hS).2).2⟩) hA hI
  refine lx_mmax d hl hs hi hc ⟨by omega, by show ((rnS π S).map fun v => v.category).sum + 13 ≤ _; rw [rnS_sum]; omega⟩ ?_
  rw [oi_max hr]
  exact g
theorem gi_min {index lev : Nat} {x y : Int} (d : decode mi.2.1 pc = .ok (.invokestatic index, 3)) (hl : Cond.methodLink mi.1.cls index Lib.Math.min.name ∈ TT) (hs : Cond.static Lib.Math.min.name ∈ TT) (hi : Cond.initialized "java/lang/Math" ∈ TT) (hc : Cond.code Lib.Math.min.name Lib.Math.min.code 2 (some .int) ∈ TT) (hst : (S.map fun v => v.category).sum ≤ 8) (hr : -2147483648 ≤ x ∧ x < 2147483648 ∧ -2147483648 ≤ y ∧ y < 2147483648)
    (k : LXf TT cl X mi (40 + lev) (1000 + 200 * lev) D P PX kc ks (pc + 3) L (.int (Int32.ofInt (min x y)) :: S) h) : LXf TT cl X mi (40 + lev) (1000 + 200 * lev) D P PX kc ks pc L (.int (Int32.ofInt y) :: .int (Int32.ofInt x) :: S) h := by
  intro π0 π M hR hL hS hA hI
  have g := k π0 π M hR hL (mcS_cons.mpr ⟨trivial, (mcS_cons.mp (mcS_cons.mp hS).2).2⟩) hA hI
  refine lx_mmin d hl hs hi hc ⟨by omega, by show ((rnS π S).map fun v => v.category).sum + 13 ≤ _; rw [rnS_sum]; omega⟩ ?_
  rw [oi_min hr]
  exact g
end HP3
section HP4
variable {TT : List Cond} {cl : List vw_C} {X : XT} {mi ci : MI} {fr lo : Nat} {D : mF} {P : Option Value → mF → Prop} {PX : String → mF → Prop} {kc ks pc : Nat} {L : List (Nat × Value)} {S : List Value} {sh : sM} {I : mI} {J : mJ} {h : mF}
/-- no answer, but a memory -/
def EVv (TT : List Cond) (cl : List vw_C) (X : XT) (mi : MI) (lev : Nat) (a : List Value) (sh : sM) (I : mI) (J : mJ) (F : mI → mJ → Prop) : Prop := EVm TT cl X mi lev a sh I J (fun v I1 J1 => v = none ∧ F I1 J1)
/-- an int, and a memory -/
def EVi (TT : List Cond) (cl : List vw_C) (X : XT) (mi : MI) (lev : Nat) (a : List Value) (sh : sM) (I : mI) (J : mJ) (F : Int → mI → mJ → Prop) : Prop := EVm TT cl X mi lev a sh I J (fun v I1 J1 => ∃ r : Int, v = some (.int (Int32.ofInt r)) ∧ F r I1 J1)
theorem gw_callV {lev lev1 len t n rc : Nat} {a S0 : List Value} {F : mI → mJ → Prop} (hk : kCall TT cl X mi pc len ci t n rc) (he : EVv TT cl X ci lev1 a sh I J F) (hS0 : a.reverse ++ S = S0) (hn : a.length = n) (hrc : gcR sh a t rc) (hlev : lev1 < lev) (hml : ci.2.2.1 ≤ 181) (hst : (S.map fun v => v.category).sum ≤ 8)
    (kk : ∀ I1 J1, F I1 J1 → LXf TT cl X mi (40 + lev) (1000 + 200 * lev) D P PX kc ks (pc + len) L S (hp sh I1 J1)) :
    LXf TT cl X mi (40 + lev) (1000 + 200 * lev) D P PX kc ks pc L S0 (hp sh I J) := by
  refine gw_callM hk he hS0 hn hrc hlev hml hst (fun v I1 J1 w => ?_)
  obtain ⟨rfl, w⟩ := w
  exact kk I1 J1 w
theorem gw_callI {lev lev1 len t n rc : Nat} {a S0 : List Value} {F : Int → mI → mJ → Prop} (hk : kCall TT cl X mi pc len ci t n rc) (he : EVi TT cl X ci lev1 a sh I J F) (hS0 : a.reverse ++ S = S0) (hn : a.length = n) (hrc : gcR sh a t rc) (hlev : lev1 < lev) (hml : ci.2.2.1 ≤ 181) (hst : (S.map fun v => v.category).sum ≤ 8)
    (kk : ∀ r I1 J1, F r I1 J1 → LXf TT cl X mi (40 + lev) (1000 + 200 * lev) D P PX kc ks (pc + len) L (.int (Int32.ofInt r) :: S) (hp sh I1 J1)) :
    LXf TT cl X mi (40 + lev) (1000 + 200 * lev) D P PX kc ks pc L S0 (hp sh I J) := by
  refine gw_callM hk he hS0 hn hrc hlev hml hst (fun v I1 J1 w => ?_)
  obtain ⟨r, rfl, w⟩ := w
  exact kk r I1 J1 w
theorem gi_slen {k N : Nat} {ty : FieldType} {f : Nat → Value} (d : decode mi.2.1 pc = .ok (.arraylength, 1)) (h0k : ¬ k = 0) (hX : mj_XA X k ty N f) (kk : LXf TT cl X mi fr lo D P PX kc ks (pc + 1) L (.int (Int32.ofInt (N : Int)) :: S) h) : LXf TT cl X mi fr lo D P PX kc ks pc L (.retAddr k :: S) h := by
  intro π0 π M hR hL hS hA hI
  have g := kk π0 π M hR hL (mcS_cons.mpr ⟨trivial, (mcS_cons.mp hS).2⟩) hA hI
  refine lx_sarraylength d h0k hX ?_
  rw [← oi_nat]
  exact g
theorem gi_xlen {k N : Nat} {xs : Nat → Int32} (d : decode mi.2.1 pc = .ok (.arraylength, 1)) (h0k : ¬ k = 0) (hX : mj_XI X k N xs) (kk : LXf TT cl X mi fr lo D P PX kc ks (pc + 1) L (.int (Int32.ofInt (N : Int)) :: S) h) : LXf TT cl X mi fr lo D P PX kc ks pc L (.retAddr k :: S) h := by
  intro π0 π M hR hL hS hA hI
  have g := kk π0 π M hR hL (mcS_cons.mpr ⟨trivial, (mcS_cons.mp hS).2⟩) hA hI
  refine lx_xlen d h0k hX ?_
  rw [← oi_nat]
  exact g
theorem gi_slaload {k N j : Nat} {f : Nat → Value} {x : Int64} (d : decode mi.2.1 pc = .ok (.laload, 1)) (h0k : ¬ k = 0) (hX : mj_XA X k .long N f) (hj : j < N ∧ N ≤ 2147483647) (hf : f j = .long x) (kk : LXf TT cl X mi fr lo D P PX kc ks (pc + 1) L (.long x :: S) h) : LXf TT cl X mi fr lo D P PX kc ks pc L (.int (Int32.ofInt (j : Int)) :: .retAddr k :: S) h := by
  intro π0 π M hR hL hS hA hI
  exact lx_slaload d h0k hX (oi_in (by omega) (by omega) hj.2) (by rw [oi_n (by omega), Int.toNat_natCast]; exact hf) (kk π0 π M hR hL (mcS_cons.mpr ⟨trivial, (mcS_cons.mp (mcS_cons.mp hS).2).2⟩) hA hI)
theorem gi_xload {k N j : Nat} {xs : Nat → Int32} (d : decode mi.2.1 pc = .ok (.iaload, 1)) (h0k : ¬ k = 0) (hX : mj_XI X k N xs) (hj : j < N ∧ N ≤ 2147483647) (kk : LXf TT cl X mi fr lo D P PX kc ks (pc + 1) L (.int (xs j) :: S) h) : LXf TT cl X mi fr lo D P PX kc ks pc L (.int (Int32.ofInt (j : Int)) :: .retAddr k :: S) h := by
  intro π0 π M hR hL hS hA hI
  refine lx_xload d h0k hX (oi_in (by omega) (by omega) hj.2) ?_
  rw [oi_n (by omega), Int.toNat_natCast]
  exact kk π0 π M hR hL (mcS_cons.mpr ⟨trivial, (mcS_cons.mp (mcS_cons.mp hS).2).2⟩) hA hI
/-- a truth value -/
theorem bz_in {p : Prop} [Decidable p] : (if p then 1 else 0 : Int) = 0 ∨ (if p then 1 else 0 : Int) = 1 := by
  by_cases q : p
  · exact Or.inr (if_pos q)
  · exact Or.inl (if_neg q)
theorem gb_if_eq {p : Prop} [Decidable p] {off : Int} {tgt : Nat} (d : decode mi.2.1 pc = .ok (.ifCond .eq off, 3)) (ht : (pc : Int) + off = (tgt : Int)) (kt : ¬ p → LXf TT cl X mi fr lo D P PX kc ks tgt L S h) (kf : p → LXf TT cl X mi fr lo D P PX kc ks (pc + 3) L S h) : LXf TT cl X mi fr lo D P PX kc ks pc L (.int (Int32.ofInt (if p then 1 else 0)) :: S) h := by
  refine gi_if_eq d ht (by rcases bz_in (p := p) with e | e <;> omega) (fun q => kt (fun e => ?_)) (fun q => kf (Decidable.byContradiction (fun e => q (if_neg e))))
  rw [if_pos e] at q
  cases q
theorem gb_if_ne {p : Prop} [Decidable p] {off : Int} {tgt : Nat} (d : decode mi.2.1 pc = .ok (.ifCond .ne off, 3)) (ht : (pc : Int) + off = (tgt : Int)) (kt : p → LXf TT cl X mi fr lo D P PX kc ks tgt L S h) (kf : ¬ p → LXf TT cl X mi fr lo D P PX kc ks (pc + 3) L S h) : LXf TT cl X mi fr lo D P PX kc ks pc L (.int (Int32.ofInt (if p then 1 else 0)) :: S) h := by
  refine gi_if_ne d ht (by rcases bz_in (p := p) with e | e <;> omega) (fun q => kt (Decidable.byContradiction (fun e => q (if_neg e)))) (fun q => kf (fun e => ?_))
  rw [if_pos e] at q
  cases q
theorem gb_ret {Q : Option Value → sM → mI → mJ → Prop} {p : Prop} [Decidable p] (d : decode mi.2.1 pc = .ok (.ireturn, 1)) (hr : mi.2.2.2.1 = some .boolean) (hq : Q (some (.int (Int32.ofInt (if p then 1 else 0)))) sh I J) : LXf TT cl X mi fr lo D (pst Q) PX kc ks pc L [.int (Int32.ofInt (if p then 1 else 0))] (hp sh I J) := gw_zret d hr bz_in hq
theorem lf_eqL {L1 : List (Nat × Value)} (e : L = L1) (k : LXf TT cl X mi fr lo D P PX kc ks pc L1 S h) : LXf TT cl X mi fr lo D P PX kc ks pc L S h := e ▸ k
end HP4
