/-! THE CLAIM OUT OF ONE WALK OF THE LAW'S BODY. Your part is whole_start (and what it stands on); all else here is the same for every law, but numbers. -/
def R_law : String := "MiterhouseLaw"
def lw_P (b : Addr) (xs : List Int32) (args : Array Value) (s : State) : Prop := args = #[.ref b] ∧ s.IntsAt b xs ∧ xs.length ≤ 6 ∧ (Jvm.Cond.and given_1 narrow_1).before args s = true
/-- what a walk over the start with the record d0 says of its end, said of the start itself -/
theorem lw_closed {s t : State} {o : Outcome} {d0 : Drawn} {L : List Loc} {k n : Nat} (hd0 : s.drawn.sameBut d0 lw_cs) (hv : ∃ v, o = .returned v) (hW : (s.setDrawn d0).WarmedH t.vm) (hs : (s.setDrawn d0).sameButNew ({ t with vm := s.vm } : State) L k n) : State.butDraws s t lw_cs (fun t1 => Framed s o t1 L k n) := by
  have h2 : t.drawn = d0 := congrArg State.drawn hs.1
  refine ⟨⟨hv, hW, State.sameButNew.setDrawn hs s.drawn⟩, ?_, by decide⟩
  rw [h2]
  exact hd0
def lw_Q (_ : Array Value) (s : State) (o : Outcome) (t : State) : Prop := o = .returned (some (.int 1)) ∧ State.butDraws s t lw_cs (fun t1 => Framed s o t1 [] 600006 7302064)
def lw_Z (below : List Frame) (a : Array Value) (s : State) : State → Prop := fun t => ∃ o, t.status = .running ∧ Ended t below o ∧ lw_Q a s o t
/-- the law's own end, with 1 on the stack, nothing written that was there before, its room as the claim has it; d0: the record of draws at this point (at the entry s.drawn: begin with 'refine W.base ?_' and 'have hd0 := Drawn.sameBut.refl s.drawn lw_cs') -/
theorem lw_ret {p : Program} {l : Launch} {e : Env} {s : State} {m : MethodId} {below : List Frame} {meth : Method} {c : Code} {b : Nat} {d0 : Drawn} (hd0 : s.drawn.sameBut d0 lw_cs) (hx : p.tables.exec = Jvm.exec) (hb : c.code = code) (hr : meth.sig.returnType = ret) (hlocks : meth.locks = false) {pc : Nat} {H : Heap} {ls : Array Slot} (hdg : decode code pc = .ok (.ireturn, 1)) : W p l e room_1 (s.setDrawn d0) m #[Value.ref b] below meth c H [] 600006 7302064 (lw_Z below #[Value.ref b] s) (F0 m pc ls [.int 1]) := by
  intro T hT X
  obtain ⟨fs, hret, hrun, hended, hW, hframe⟩ := X.leave (v := some (.int 1)) (hlocks := hlocks) (fun h => by rw [hr] at h; cases h)
  have hmeth' : T.vm.method? m = some meth := X.method'
  refine ⟨T.setFrames fs, ?_, .returned (some (.int 1)), hrun, hended, rfl, lw_closed hd0 ⟨_, rfl⟩ hW hframe⟩
  jvm_step X.here [X.here.top, hx, hb, hdg, hmeth', hr, ret, narrow_b1]
  (try refine ⟨rfl, ?_⟩); (try refine ⟨rfl, ?_⟩)
  first | (intro acts; rw [hret _ acts rfl rfl rfl]) | rw [hret _ _ rfl rfl rfl]
  exact Steps.refl _
/-- what holds at the law's entry: the machine, the code, the tables' words (any of lw_tbl by 'hts w (by decide +kernel)'), the script of L ints xs at the cell b, what the Statement gives of the start (any of its parts by flat_of_before) -/
def lw_At (p : Program) (s : State) (m : MethodId) (meth : Method) (c : Code) (b L : Nat) (xs : Nat → Int32) : Prop :=
  p.tables.exec = Jvm.exec ∧ c.code = code ∧ meth.sig.returnType = ret ∧ c.maxLocals = 9 ∧ s.vm.findClass R_law = some m.cls ∧ (∀ w ∈ lw_tbl, w.before #[Value.ref b] s = true) ∧ va_X b L xs s s.heap ∧ b < s.heap.size ∧ meth.locks = false ∧ (Jvm.Cond.and given_1 narrow_1).before #[Value.ref b] s = true ∧ (∀ x ∈ c.exceptionTable.toList, False) ∧ meth.name = "law"
-- ===== MY PART =====
/-- the law's case by the number of its call -/
theorem law_case {L : Nat} {xs : Nat → Int32} (hL : L ≤ 6) : ∃ (kc ks d : Nat), d ≤ 12 ∧ kc ≤ 600006 ∧ ks ≤ 7302064 ∧ LX TT cl6 (XX L xs) (mis 94) (40 + d) (1000 + 200 * d) (fun v _ => v = some (.int 1)) (fun _ _ => False) kc ks 0 [(0, .retAddr 1)] [] [] := by
  have h := hx_all (xs := xs) (ys := xs) hL (fun _ _ => rfl)
  have k9 := same9 (xs := xs) hL
  obtain ⟨a1, a2⟩ := i32_and63 (xs 0)
  have h8 := ofNat6 hL
  by_cases h6 : L = 6
  · subst h6
    have s8 : sIn (6, 6, []) (Int32.ofNat 6).toInt := ⟨by rw [h8]; decide, by rw [h8]; decide, fun e he => by cases he⟩
    have one : ∀ k : Int, (xs 0 &&& 63).toInt = k → sIn (k, k, []) (xs 0 &&& 63).toInt := fun k e => ⟨by rw [e]; exact Int.le_refl _, by rw [e]; exact Int.le_refl _, fun e he => by cases he⟩
    have cs : (xs 0 &&& 63).toInt = 0 ∨ (xs 0 &&& 63).toInt = 1 ∨ (xs 0 &&& 63).toInt = 2 ∨ (xs 0 &&& 63).toInt = 3 ∨ (xs 0 &&& 63).toInt = 4 ∨ (xs 0 &&& 63).toInt = 5 ∨ (xs 0 &&& 63).toInt = 6 ∨ (xs 0 &&& 63).toInt = 7 ∨ (xs 0 &&& 63).toInt = 8 ∨ (xs 0 &&& 63).toInt = 9 ∨ (xs 0 &&& 63).toInt = 10 ∨ (xs 0 &&& 63).toInt = 11 ∨ (xs 0 &&& 63).toInt = 12 ∨ (xs 0 &&& 63).toInt = 13 ∨ (xs 0 &&& 63).toInt = 14 ∨ (xs 0 &&& 63).toInt = 15 ∨ (xs 0 &&& 63).toInt = 16 ∨ (xs 0 &&& 63).toInt = 17 ∨ (xs 0 &&& 63).toInt = 18 ∨ (xs 0 &&& 63).toInt = 19 ∨ (xs 0 &&& 63).toInt = 20 ∨ (xs 0 &&& 63).toInt = 21 ∨ (xs 0 &&& 63).toInt = 22 ∨ (xs 0 &&& 63).toInt = 23 ∨ (xs 0 &&& 63).toInt = 24 ∨ (xs 0 &&& 63).toInt = 25 ∨ (xs 0 &&& 63).toInt = 26 ∨ (xs 0 &&& 63).toInt = 27 ∨ (xs 0 &&& 63).toInt = 28 ∨ (xs 0 &&& 63).toInt = 29 ∨ (xs 0 &&& 63).toInt = 30 ∨ (xs 0 &&& 63).toInt = 31 ∨ (xs 0 &&& 63).toInt = 32 ∨ (xs 0 &&& 63).toInt = 33 ∨ (xs 0 &&& 63).toInt = 34 ∨ (xs 0 &&& 63).toInt = 35 ∨ (xs 0 &&& 63).toInt = 36 ∨ (xs 0 &&& 63).toInt = 37 ∨ (xs 0 &&& 63).toInt = 38 ∨ (xs 0 &&& 63).toInt = 39 ∨ (xs 0 &&& 63).toInt = 40 ∨ (xs 0 &&& 63).toInt = 41 ∨ (xs 0 &&& 63).toInt = 42 ∨ (xs 0 &&& 63).toInt = 43 ∨ (xs 0 &&& 63).toInt = 44 ∨ (xs 0 &&& 63).toInt = 45 ∨ (xs 0 &&& 63).toInt = 46 ∨ (xs 0 &&& 63).toInt = 47 ∨ (48 : Int) ≤ (xs 0 &&& 63).toInt := by omega
    rcases cs with c | c | c | c | c | c | c | c | c | c | c | c | c | c | c | c | c | c | c | c | c | c | c | c | c | c | c | c | c | c | c | c | c | c | c | c | c | c | c | c | c | c | c | c | c | c | c | c | c
    · obtain ⟨kc, ks, q1, q2, q3⟩ := law_lx h k9 run_0 (rho_sat (one 0 c) s8)
      exact ⟨kc, ks, 12, Nat.le_refl _, q1, q2, q3⟩
    · obtain ⟨kc, ks, q1, q2, q3⟩ := law_lx h k9 run_1 (rho_sat (one 1 c) s8)
      exact ⟨kc, ks, 12, Nat.le_refl _, q1, q2, q3⟩
    · obtain ⟨kc, ks, q1, q2, q3⟩ := law_lx h k9 run_2 (rho_sat (one 2 c) s8)
      exact ⟨kc, ks, 12, Nat.le_refl _, q1, q2, q3⟩
    · obtain ⟨kc, ks, q1, q2, q3⟩ := law_lx h k9 run_3 (rho_sat (one 3 c) s8)
      exact ⟨kc, ks, 12, Nat.le_refl _, q1, q2, q3⟩
    · obtain ⟨kc, ks, q1, q2, q3⟩ := law_lx h k9 run_4 (rho_sat (one 4 c) s8)
      exact ⟨kc, ks, 12, Nat.le_refl _, q1, q2, q3⟩
    · obtain ⟨kc, ks, q1, q2, q3⟩ := law_lx h k9 run_5 (rho_sat (one 5 c) s8)
      exact ⟨kc, ks, 12, Nat.le_refl _, q1, q2, q3⟩
    · obtain ⟨kc, ks, q1, q2, q3⟩ := law_lx h k9 run_6 (rho_sat (one 6 c) s8)
      exact ⟨kc, ks, 12, Nat.le_refl _, q1, q2, q3⟩
    · obtain ⟨kc, ks, q1, q2, q3⟩ := law_lx h k9 run_7 (rho_sat (one 7 c) s8)
      exact ⟨kc, ks, 12, Nat.le_refl _, q1, q2, q3⟩
    · obtain ⟨kc, ks, q1, q2, q3⟩ := law_lx h k9 run_8 (rho_sat (one 8 c) s8)
      exact ⟨kc, ks, 12, Nat.le_refl _, q1, q2, q3⟩
    · obtain ⟨kc, ks, q1, q2, q3⟩ := law_lx h k9 run_9 (rho_sat (one 9 c) s8)
      exact ⟨kc, ks, 12, Nat.le_refl _, q1, q2, q3⟩
    · obtain ⟨kc, ks, q1, q2, q3⟩ := law_lx h k9 run_10 (rho_sat (one 10 c) s8)
      exact ⟨kc, ks, 12, Nat.le_refl _, q1, q2, q3⟩
    · obtain ⟨kc, ks, q1, q2, q3⟩ := law_lx h k9 run_11 (rho_sat (one 11 c) s8)
      exact ⟨kc, ks, 12, Nat.le_refl _, q1, q2, q3⟩
    · obtain ⟨kc, ks, q1, q2, q3⟩ := law_lx h k9 run_12 (rho_sat (one 12 c) s8)
      exact ⟨kc, ks, 12, Nat.le_refl _, q1, q2, q3⟩
    · obtain ⟨kc, ks, q1, q2, q3⟩ := law_lx h k9 run_13 (rho_sat (one 13 c) s8)
      exact ⟨kc, ks, 12, Nat.le_refl _, q1, q2, q3⟩
    · obtain ⟨kc, ks, q1, q2, q3⟩ := law_lx h k9 run_14 (rho_sat (one 14 c) s8)
      exact ⟨kc, ks, 12, Nat.le_refl _, q1, q2, q3⟩
    · obtain ⟨kc, ks, q1, q2, q3⟩ := law_lx h k9 run_15 (rho_sat (one 15 c) s8)
      exact ⟨kc, ks, 12, Nat.le_refl _, q1, q2, q3⟩
    · obtain ⟨kc, ks, q1, q2, q3⟩ := law_lx h k9 run_16 (rho_sat (one 16 c) s8)
      exact ⟨kc, ks, 12, Nat.le_refl _, q1, q2, q3⟩
    · obtain ⟨kc, ks, q1, q2, q3⟩ := law_lx h k9 run_17 (rho_sat (one 17 c) s8)
      exact ⟨kc, ks, 12, Nat.le_refl _, q1, q2, q3⟩
    · obtain ⟨kc, ks, q1, q2, q3⟩ := law_lx h k9 run_18 (rho_sat (one 18 c) s8)
      exact ⟨kc, ks, 12, Nat.le_refl _, q1, q2, q3⟩
    · obtain ⟨kc, ks, q1, q2, q3⟩ := law_lx h k9 run_19 (rho_sat (one 19 c) s8)
      exact ⟨kc, ks, 12, Nat.le_refl _, q1, q2, q3⟩
    · obtain ⟨kc, ks, q1, q2, q3⟩ := law_lx h k9 run_20 (rho_sat (one 20 c) s8)
      exact ⟨kc, ks, 12, Nat.le_refl _, q1, q2, q3⟩
    · obtain ⟨kc, ks, q1, q2, q3⟩ := law_lx h k9 run_21 (rho_sat (one 21 c) s8)
      exact ⟨kc, ks, 12, Nat.le_refl _, q1, q2, q3⟩
    · obtain ⟨kc, ks, q1, q2, q3⟩ := law_lx h k9 run_22 (rho_sat (one 22 c) s8)
      exact ⟨kc, ks, 12, Nat.le_refl _, q1, q2, q3⟩
    · obtain ⟨kc, ks, q1, q2, q3⟩ := law_lx h k9 run_23 (rho_sat (one 23 c) s8)
      exact ⟨kc, ks, 12, Nat.le_refl _, q1, q2, q3⟩
    · obtain ⟨kc, ks, q1, q2, q3⟩ := law_lx h k9 run_24 (rho_sat (one 24 c) s8)
      exact ⟨kc, ks, 12, Nat.le_refl _, q1, q2, q3⟩
    · obtain ⟨kc, ks, q1, q2, q3⟩ := law_lx h k9 run_25 (rho_sat (one 25 c) s8)
      exact ⟨kc, ks, 12, Nat.le_refl _, q1, q2, q3⟩
    · obtain ⟨kc, ks, q1, q2, q3⟩ := law_lx h k9 run_26 (rho_sat (one 26 c) s8)
      exact ⟨kc, ks, 12, Nat.le_refl _, q1, q2, q3⟩
    · obtain ⟨kc, ks, q1, q2, q3⟩ := law_lx h k9 run_27 (rho_sat (one 27 c) s8)
      exact ⟨kc, ks, 12, Nat.le_refl _, q1, q2, q3⟩
    · obtain ⟨kc, ks, q1, q2, q3⟩ := law_lx h k9 run_28 (rho_sat (one 28 c) s8)
      exact ⟨kc, ks, 12, Nat.le_refl _, q1, q2, q3⟩
    · obtain ⟨kc, ks, q1, q2, q3⟩ := law_lx h k9 run_29 (rho_sat (one 29 c) s8)
      exact ⟨kc, ks, 12, Nat.le_refl _, q1, q2, q3⟩
    · obtain ⟨kc, ks, q1, q2, q3⟩ := law_lx h k9 run_30 (rho_sat (one 30 c) s8)
      exact ⟨kc, ks, 12, Nat.le_refl _, q1, q2, q3⟩
    · obtain ⟨kc, ks, q1, q2, q3⟩ := law_lx h k9 run_31 (rho_sat (one 31 c) s8)
      exact ⟨kc, ks, 12, Nat.le_refl _, q1, q2, q3⟩
    · obtain ⟨kc, ks, q1, q2, q3⟩ := law_lx h k9 run_32 (rho_sat (one 32 c) s8)
      exact ⟨kc, ks, 12, Nat.le_refl _, q1, q2, q3⟩
    · obtain ⟨kc, ks, q1, q2, q3⟩ := law_lx h k9 run_33 (rho_sat (one 33 c) s8)
      exact ⟨kc, ks, 12, Nat.le_refl _, q1, q2, q3⟩
    · obtain ⟨kc, ks, q1, q2, q3⟩ := law_lx h k9 run_34 (rho_sat (one 34 c) s8)
      exact ⟨kc, ks, 12, Nat.le_refl _, q1, q2, q3⟩
    · obtain ⟨kc, ks, q1, q2, q3⟩ := law_lx h k9 run_35 (rho_sat (one 35 c) s8)
      exact ⟨kc, ks, 12, Nat.le_refl _, q1, q2, q3⟩
    · obtain ⟨kc, ks, q1, q2, q3⟩ := law_lx h k9 run_36 (rho_sat (one 36 c) s8)
      exact ⟨kc, ks, 12, Nat.le_refl _, q1, q2, q3⟩
    · obtain ⟨kc, ks, q1, q2, q3⟩ := law_lx h k9 run_37 (rho_sat (one 37 c) s8)
      exact ⟨kc, ks, 12, Nat.le_refl _, q1, q2, q3⟩
    · obtain ⟨kc, ks, q1, q2, q3⟩ := law_lx h k9 run_38 (rho_sat (one 38 c) s8)
      exact ⟨kc, ks, 12, Nat.le_refl _, q1, q2, q3⟩
    · obtain ⟨kc, ks, q1, q2, q3⟩ := law_lx h k9 run_39 (rho_sat (one 39 c) s8)
      exact ⟨kc, ks, 12, Nat.le_refl _, q1, q2, q3⟩
    · obtain ⟨kc, ks, q1, q2, q3⟩ := law_lx h k9 run_40 (rho_sat (one 40 c) s8)
      exact ⟨kc, ks, 12, Nat.le_refl _, q1, q2, q3⟩
    · obtain ⟨kc, ks, q1, q2, q3⟩ := law_lx h k9 run_41 (rho_sat (one 41 c) s8)
      exact ⟨kc, ks, 12, Nat.le_refl _, q1, q2, q3⟩
    · obtain ⟨kc, ks, q1, q2, q3⟩ := law_lx h k9 run_42 (rho_sat (one 42 c) s8)
      exact ⟨kc, ks, 12, Nat.le_refl _, q1, q2, q3⟩
    · obtain ⟨kc, ks, q1, q2, q3⟩ := law_lx h k9 run_43 (rho_sat (one 43 c) s8)
      exact ⟨kc, ks, 12, Nat.le_refl _, q1, q2, q3⟩
    · obtain ⟨kc, ks, q1, q2, q3⟩ := law_lx h k9 run_44 (rho_sat (one 44 c) s8)
      exact ⟨kc, ks, 12, Nat.le_refl _, q1, q2, q3⟩
    · obtain ⟨kc, ks, q1, q2, q3⟩ := law_lx h k9 run_45 (rho_sat (one 45 c) s8)
      exact ⟨kc, ks, 12, Nat.le_refl _, q1, q2, q3⟩
    · obtain ⟨kc, ks, q1, q2, q3⟩ := law_lx h k9 run_46 (rho_sat (one 46 c) s8)
      exact ⟨kc, ks, 12, Nat.le_refl _, q1, q2, q3⟩
    · obtain ⟨kc, ks, q1, q2, q3⟩ := law_lx h k9 run_47 (rho_sat (one 47 c) s8)
      exact ⟨kc, ks, 12, Nat.le_refl _, q1, q2, q3⟩
    · obtain ⟨kc, ks, q1, q2, q3⟩ := law_lx h k9 run_d (rho_sat ⟨c, a2, fun e he => by cases he⟩ s8)
      exact ⟨kc, ks, 12, Nat.le_refl _, q1, q2, q3⟩
  · obtain ⟨kc, ks, q1, q2, q3⟩ := law_lx h k9 run_s (rho_sat (op := (0, 63, [])) ⟨a1, a2, fun e he => by cases he⟩ (len := (0, 5, [])) ⟨by rw [h8]; show (0 : Int) ≤ _; omega, by rw [h8]; show _ ≤ (5 : Int); omega, fun e he => by cases he⟩)
    exact ⟨kc, ks, 12, Nat.le_refl _, q1, q2, q3⟩
theorem u_kn6 {s : State} {args : Array Value} (hts : ∀ w ∈ TT, w.before args s = true) : ∃ D : va_G, va_K D cl6 [] s := by
  obtain ⟨c0, i0, k0⟩ := u_known hts cK_0.2.1 (hts _ tin_0)
  obtain ⟨c1, i1, k1⟩ := u_known hts cK_1.2.1 (hts _ tin_1)
  obtain ⟨c2, i2, k2⟩ := u_known hts cK_2.2.1 (hts _ tin_2)
  obtain ⟨c3, i3, k3⟩ := u_known hts cK_3.2.1 (hts _ tin_3)
  obtain ⟨c4, i4, k4⟩ := u_known hts cK_4.2.1 (hts _ tin_4)
  obtain ⟨c5, i5, k5⟩ := u_known hts cK_5.2.1 (hts _ tin_5)
  refine ⟨(fun c => match c with | 0 => c0 | 1 => c1 | 2 => c2 | 3 => c3 | 4 => c4 | _ => c5, fun c => match c with | 0 => i0 | 1 => i1 | 2 => i2 | 3 => i3 | 4 => i4 | _ => i5), fun c q hq => ?_, fun k q hq => by simp at hq⟩
  match c, hq with
  | 0, hq => cases hq; exact k0
  | 1, hq => cases hq; exact k1
  | 2, hq => cases hq; exact k2
  | 3, hq => cases hq; exact k3
  | 4, hq => cases hq; exact k4
  | 5, hq => cases hq; exact k5
  | n + 6, hq => cases hq
theorem tt_sub {w : Cond} (h : w ∈ TT) : w ∈ lw_tbl := (List.mem_filter.mp h).1
/-- what the start gives -/
theorem start_X {s : State} {b L : Nat} {xs : Nat → Int32} (hts : ∀ w ∈ lw_tbl, w.before #[Value.ref b] s = true) (hX : va_X b L xs s s.heap) (hbl : b < s.heap.size) (hgv : (Jvm.Cond.and given_1 narrow_1).before #[Value.ref b] s = true) :
    ∃ sp : Nat → Nat, sp 1 = b ∧ XX L xs (fun q => s.heap.size ≤ q) sp s s.heap := by
  have hs := flat_of_before _ hgv
  have hA : ∀ a : Nat, a < s.heap.size → ¬ (fun q => s.heap.size ≤ q) a := fun a h => Nat.not_le.mpr h
  obtain ⟨t3, e3, T3⟩ := va_Tof (args := #[Value.ref b]) (s := s) (tm := .static "java/util/ArrayList" "DEFAULTCAPACITY_EMPTY_ELEMENTDATA" "[Ljava/lang/Object;") (ty := .object "java/lang/Object") (N := 0) (f := fun _ => .null) (A := fun q => s.heap.size ≤ q) (by decide) (hs _ (by decide +kernel)) (va_eqt (hs _ (by decide +kernel))) (fun j hj => absurd hj (Nat.not_lt_zero j)) hA
  have Z3 := va_Zof (hts (.laysStatic "java/util/ArrayList" "DEFAULTCAPACITY_EMPTY_ELEMENTDATA" "[Ljava/lang/Object;") (by decide +kernel)) (hts (.initialized "java/util/ArrayList") (by decide +kernel)) e3 hA
  obtain ⟨t2, e2, T2⟩ := va_Tof (args := #[Value.ref b]) (s := s) (tm := .static "Miterhouse" "HIGH_HALVES" "[J") (ty := .long) (N := 6) (f := fun j => .long (hhv j)) (A := fun q => s.heap.size ≤ q) (by decide) (hs _ (by decide +kernel)) (va_eqt (hs _ (by decide +kernel))) (fun j hj => by
    match j, hj with
    | 0, _ => exact va_eqtl (hs _ (by decide +kernel))
    | 1, _ => exact va_eqtl (hs _ (by decide +kernel))
    | 2, _ => exact va_eqtl (hs _ (by decide +kernel))
    | 3, _ => exact va_eqtl (hs _ (by decide +kernel))
    | 4, _ => exact va_eqtl (hs _ (by decide +kernel))
    | 5, _ => exact va_eqtl (hs _ (by decide +kernel))
    | n + 6, h => omega) hA
  have Z2 := va_Zof (hts (.laysStatic "Miterhouse" "HIGH_HALVES" "[J") (by decide +kernel)) (hts (.initialized "Miterhouse") (by decide +kernel)) e2 hA
  have ini := hts (.initialized "java/lang/Throwable") (by decide +kernel)
  refine ⟨fun k => match k with | 1 => b | 2 => t2 | _ => t3, rfl, vx_Zqof (hts _ (by decide +kernel)) ini (hs _ (by decide +kernel)) hA, vx_Zqof (hts _ (by decide +kernel)) ini (hs _ (by decide +kernel)) hA, Z3, T3, Z2, T2, hX, hbl, hA b hbl,
    va_Fw.of (hts _ (by decide +kernel)) (hts _ (by decide +kernel)) (hts _ (by decide +kernel)) (hts _ (by decide +kernel)) (hts _ (by decide +kernel)), ?_, ?_⟩
  · have key : ∀ q ∈ ncs, (Cond.not (.castable q.1 q.2)) ∈ flatC (Jvm.Cond.and given_1 narrow_1) := by decide +kernel
    exact fun q hq => va_Nc.of (hs _ (key q hq))
  · have key1 : ∀ q ∈ strs, Cond.stringRef q.1 q.2.1 q.2.2 ∈ lw_tbl := by decide +kernel
    have key2 : ∀ q ∈ strs, Cond.exactly (.string q.1 q.2.1) "java/lang/String" ∈ flatC (Jvm.Cond.and given_1 narrow_1) := by decide +kernel
    intro q hq
    obtain ⟨a, c, cell, k, q1, -⟩ := Cond.exactly_spec (hs _ (key2 q hq))
    exact ⟨a, vk_R.of (hts _ (key1 q hq)) q1⟩
set_option maxHeartbeats 4000000 in
theorem whole_start {p : Program} {e : Env} {s : State} {m : MethodId} {below : List Frame} {meth : Method} {c : Code} (l : Launch) (hflags : l.flags = flags0) {b L : Nat} {xs : Nat → Int32} (hL : L ≤ 6) (C0 : lw_At p s m meth c b L xs) : W p l e room_1 s m #[Value.ref b] below meth c s.heap [] 0 0 (lw_Z below #[Value.ref b] s) (entryFrame m ([Value.ref b] : List Value).toArray 9) := by
  obtain ⟨hx, hb, hr, hml, hown, hts, hX, hbl, hlocks, hgv, htab, hname⟩ := C0
  have htt : ∀ w ∈ TT, w.before #[Value.ref b] s = true := fun w hw => hts w (tt_sub hw)
  obtain ⟨D, hK⟩ := u_kn6 htt
  obtain ⟨sp, hsp, hXX⟩ := start_X hts hX hbl hgv
  obtain ⟨kc, ks, d, hd, h1, h2, K⟩ := law_case (L := L) (xs := xs) hL
  have htr : l.stackTraces = false := by
    unfold Launch.stackTraces
    rw [hflags]
    decide +kernel
  have hl := lv_entry ([.ref b]) (n := 9) (Nat.le_of_ble_eq_true rfl)
  rw [lg_entry_eq]
  generalize (lg_sl ([.ref b]) ++ List.replicate (9 - (lg_sl ([.ref b])).length) Slot.unset).toArray = ls at hl ⊢
  have hl : lv_has ls 9 [(0, .ref b)] := hl
  have htab2 : c.exceptionTable.toList = tableOf (mis 94).2.2.2.2 := by
    cases ht : c.exceptionTable.toList with
    | nil => rfl
    | cons z zs => exact (htab z (by rw [ht]; exact List.mem_cons_self)).elim
  have k1 := K p l e room_1 s m #[Value.ref b] below meth c (fun _ _ o _ => o = .returned (some (.int 1))) (fun _ _ _ => False) (fun q => s.heap.size ≤ q) D sp (fun q => s.heap.size ≤ q) []
    ⟨hx, hb, hml, hown, htt, hr, hlocks, htab2, hname, htr, by show 40 + d ≤ 2048; omega, by show 1000 + 200 * d ≤ 94400; omega, fun q h => h, fun q h => h, hXX, XX_ok⟩
    (fun as M v w t hP hor _ _ _ _ => by
      subst hP
      obtain ⟨w', rfl, hw⟩ := hor
      cases (show w' = .int 1 from hw)
      rfl)
    (fun _ _ _ _ h => h.elim)
    [] [(0, .ref b)] [] s.heap [] 0 0 ls mj_le_rf ⟨[], [], hK, fun k q hq => by simp at hq, ⟨fun i j p q hp => by simp at hp, fun k q hq => by simp at hq⟩, rfl, rfl, fun i e hi => by simp at hi⟩ va_S.rf hl ⟨⟨rfl, b, rfl, Or.inr hsp.symm⟩, trivial⟩ trivial
    (by show 0 + kc ≤ 600006; omega) (by show 0 + ks ≤ 7302064; omega)
  intro T hT X
  obtain ⟨t, a1, o, b1, b2, b3⟩ := k1 T hT X
  refine ⟨t, a1, o, b1, b2, ?_⟩
  rcases b3 with ⟨rfl, L9, ⟨hv, hW, hsm⟩, hfree⟩ | ⟨q, -, E, ce, L9, hx9, -⟩
  · have hs0 : s.setDrawn s.drawn = s := rfl
    have hs1 := State.sameButNew.drop_fresh (L := []) (J := L9) (by simpa using hsm) hfree
    refine ⟨rfl, lw_closed (d0 := s.drawn) (L := []) (Drawn.sameBut.refl s.drawn lw_cs) hv (by rw [hs0]; exact hW) (by rw [hs0]; exact hs1)⟩
  · exact hx9.elim
-- ===== YOUR PART ENDS =====
set_option maxHeartbeats 4000000 in
theorem lw_walk (l : Launch) (hflags : l.flags = flags0) (b : Addr) (xs : List Int32) : MetFree l x (headSpec (Jvm.Cond.code x code maxLocals ret :: tables_1) room_1) (lw_P b xs) (fun _ _ _ _ _ => True) lw_Q := by
  refine MetFree.of_bodyS (code := code) (maxLocals := maxLocals) (ret := ret) (by decide) ?_ ?_
  · intro args s m h hn
    obtain ⟨meth, c, h1, h2, h3, h4, h5, h6, -, -⟩ := Cond.code_spec hn (atoms_spec (ws := Jvm.Cond.code x code maxLocals ret :: tables_1) h _ List.mem_cons_self)
    exact ⟨meth, c, h1, h2, h3, h4, h5, h6⟩
  · intro p e s m args below meth c s₁ B hml0 hP _
    obtain ⟨rfl, hx, hbd, hgv⟩ := hP
    obtain ⟨scr, harrAt, hlist, hof, hsmall⟩ := hx
    obtain ⟨hcb, hkn, -, -⟩ := State.arrayAt?_spec harrAt
    have hown : s.vm.findClass R_law = some m.cls := findClass_of_methodNamed B.named
    have hts0 : ∀ c ∈ (Jvm.Cond.code x code maxLocals ret :: tables_1), c.before #[Value.ref b] s = true := atoms_spec (ws := Jvm.Cond.code x code maxLocals ret :: tables_1) B.pre
    have hts : ∀ w ∈ lw_tbl, w.before #[Value.ref b] s = true := k2_hts_sels lw_privs (fun w hw => hts0 w (List.mem_cons_of_mem _ hw)) lw_privs_ok
    have hml : c.maxLocals = 9 := B.maxLocals_eq (hts0 _ List.mem_cons_self)
    have X₀ : Stand p l e room_1 s m #[Value.ref b] below meth c s₁ [] 0 0 := Stand.of_body B
    have hh0 : s₁.heap = s.heap := by rw [B.state]; rfl
    have hsz : scr.slots.size = xs.length := by rw [← Array.length_toList, hlist, List.length_map]
    have hval : ∀ j : Nat, j < xs.length → scr.slots[j]? = some (.int (xs.getD j 0)) := fun j hj => by
      rw [← Array.getElem?_toList, hlist]
      simp [hj]
    have hbl : b < s.heap.size := (Array.getElem?_eq_some_iff.mp hcb).1
    have hX : va_X b xs.length (fun j => xs.getD j 0) s s.heap := ⟨scr, hcb, hof, hkn, hsz, hval⟩
    have htab : ∀ x ∈ c.exceptionTable.toList, False := by
      obtain ⟨meth9, c9, h1, h2, -, -, -, -, h7, -⟩ := Cond.code_spec B.named (hts0 _ List.mem_cons_self)
      cases Option.some.inj (h1.symm.trans B.method)
      cases Option.some.inj (h2.symm.trans (Stand.of_body B).code)
      intro x hx
      rw [Array.isEmpty_iff.mp h7] at hx
      cases hx
    have K : W p l e room_1 s m #[Value.ref b] below meth c s₁.heap [] 0 0 (lw_Z below #[Value.ref b] s) (entryFrame m ([Value.ref b] : List Value).toArray 9) := by
      rw [hh0]
      exact whole_start l hflags hbd ⟨B.exec, B.bytes, B.returns, hml, hown, hts, hX, hbl, B.notSynchronized, hgv, htab, (name_of_methodNamed B.named B.method).1⟩
    obtain ⟨t, a1, o, b1, b2, b3⟩ := K s₁ rfl X₀
    exact ⟨t, o, a1, b1, b2, b3⟩
theorem lw_pre_spec {args : Array Value} {s : State} (h : (Jvm.Cond.and given_1 narrow_1).before args s = true) (hr : rest_1_c.before args s = true) : ∃ (b : Addr) (xs : List Int32), lw_P b xs args s := by
  have hs := flat_of_before _ h
  have hq := flat_of_before _ hr
  have hc : (Cond.count 1).before args s = true := hs _ (by decide +kernel)
  have harr : (Cond.arrayOf (.arg 0) .int).before args s = true := hs _ (by decide +kernel)
  have hle : (Cond.le (.length (.arg 0)) (.int 6)).before args s = true := hs _ (by decide +kernel)
  have hlen : (Cond.isInt (.length (.arg 0))).before args s = true := hq _ (by decide +kernel)
  have hall : (Cond.all (.arg 0) (.isInt (.elem (.arg 0) (.index 0)))).before args s = true := hq _ (by decide +kernel)
  obtain ⟨b, xs, hb, hx⟩ := State.ints_of_pre rfl harr hlen hall
  have hsm : xs.length < 2 ^ 31 := hx.choose_spec.2.2.2
  have hev : (Term.length (.arg 0)).eval args s none [] s = some (.int xs.length.toInt32) := hx.length_eval hb
  have hv := Cond.le_ints hev (show (Term.int 6).eval args s none [] s = some (.int 6) from rfl)
  have hd : xs.length.toInt32 ≤ 6 := by
    simpa [Cond.before, Cond.holds, hv] using hle
  have hN : xs.length ≤ 6 := (Int32.ofNat_le_ofNat hsm (by decide)).mp (show Int32.ofNat xs.length ≤ Int32.ofNat 6 from hd)
  exact ⟨b, xs, Cond.one_arg hc (show args[0]? = some (.ref b) from hb), hx, hN, h⟩
theorem lw_comes (l : Launch) (hflags : l.flags = flags0) : Comes l x (Jvm.Cond.code x code maxLocals ret :: tables_1) room_1 (fun tb e args s => Calls_1 tb e args s ∧ rest_1 tb e args s ∧ Pre_1 tb e args s)
    (fun _ _ args s o t => lw_Q args s o t) := by
  intro p e ha hc hk s m args below hf hfit hheap happ hpre
  obtain ⟨b, xs, hP⟩ := lw_pre_spec hpre.2.2 hpre.2.1
  obtain ⟨k, o, h1, h2, h3, hQ⟩ := lw_walk l hflags b xs p e ha hc hk s m args below hf ((Spec.applies_iff_loose hf).mp happ).1 hP trivial
  exact ⟨k, o, h1, h2, h3, hQ⟩
theorem lw_frame {s t : State} {o : Outcome} {args : Array Value} (h : State.butDraws s t lw_cs (fun t1 => Framed s o t1 [] 600006 7302064)) :
    State.butDraws s t [Jvm.Choice.named "NaN.bits"] (fun t1 => Framed s o t1 (fieldLocs frame_1_writes args s ++ arrayLocs frame_1_arrays args s ++ staticLocs frame_1_statics s) 600006 7302064) := h
theorem lw_limb (L : Cond) (hL : ∀ (args : Array Value) (s t : State), L.after args s (.returned (some (.int 1))) t = true) :
    ArmFor flags0 classFile x code maxLocals ret World_1 tables_1 room_1 Calls_1 rest_1 Pre_1
      (fun tb e a s o t => postC L tb e a s o t ∧ State.butDraws s t [Jvm.Choice.named "NaN.bits"] (fun t1 => Framed s o t1 (fieldLocs frame_1_writes a s ++ arrayLocs frame_1_arrays a s ++ staticLocs frame_1_statics s) 600006 7302064)) := by
  intro l hflags _ _ p e ha hc hk s m args below hf hfit hheap happ hpre
  obtain ⟨k, o, h1, h2, h3, rfl, hF⟩ := lw_comes l hflags p e ha hc hk s m args below hf hfit hheap happ hpre
  exact ⟨k, _, h1, h2, h3, hL args s _, lw_frame hF⟩
theorem i_vc : Claimed_1_1 ∧ Claimed_1_2 := ⟨lw_limb limb_1_1 (fun args s t => by simp [limb_1_1, Cond.after, Cond.holds, Cond.value]), lw_limb limb_1_2 (fun args s t => Cond.after_iff.mpr (by
  first | (rw [show limb_1_2 = Cond.eq .result (.int 1) from rfl, Cond.eq_ints (x := 1) (y := 1) rfl rfl]; simp; done) | (simp [limb_1_2, Cond.value, Term.eval]; done)))⟩
