section CH1
def mi_jl : MI := (⟨"java/lang/String", "isLatin1", "()Z"⟩, prog_27_method_154_code, 1, some .boolean, [])
theorem d_jl_0 : decode mi_jl.2.1 0 = .ok (.getstatic 38, 3) := by decide +kernel
theorem d_jl_3 : decode mi_jl.2.1 3 = .ok (.ifCond .eq (14), 3) := by decide +kernel
theorem d_jl_6 : decode mi_jl.2.1 6 = .ok (.aload_n 0, 1) := by decide +kernel
theorem d_jl_7 : decode mi_jl.2.1 7 = .ok (.getfield 15, 3) := by decide +kernel
theorem d_jl_10 : decode mi_jl.2.1 10 = .ok (.ifCond .ne (7), 3) := by decide +kernel
theorem d_jl_13 : decode mi_jl.2.1 13 = .ok (.iconst (1), 1) := by decide +kernel
theorem d_jl_14 : decode mi_jl.2.1 14 = .ok (.goto (4), 3) := by decide +kernel
theorem d_jl_18 : decode mi_jl.2.1 18 = .ok (.ireturn, 1) := by decide +kernel
def mi_jp : MI := (⟨"jdk/internal/util/Preconditions", "checkIndex", "(IILjava/util/function/BiFunction;)I"⟩, prog_37_method_11_code, 3, some .int, [])
theorem d_jp_0 : decode mi_jp.2.1 0 = .ok (.iload_n 0, 1) := by decide +kernel
theorem d_jp_1 : decode mi_jp.2.1 1 = .ok (.ifCond .lt (8), 3) := by decide +kernel
theorem d_jp_4 : decode mi_jp.2.1 4 = .ok (.iload_n 0, 1) := by decide +kernel
theorem d_jp_5 : decode mi_jp.2.1 5 = .ok (.iload_n 1, 1) := by decide +kernel
theorem d_jp_6 : decode mi_jp.2.1 6 = .ok (.if_icmp .lt (10), 3) := by decide +kernel
theorem d_jp_16 : decode mi_jp.2.1 16 = .ok (.iload_n 0, 1) := by decide +kernel
theorem d_jp_17 : decode mi_jp.2.1 17 = .ok (.ireturn, 1) := by decide +kernel
def mi_ji : MI := (⟨"java/lang/String", "checkIndex", "(II)V"⟩, prog_27_method_155_code, 2, none, [])
theorem d_ji_0 : decode mi_ji.2.1 0 = .ok (.iload_n 0, 1) := by decide +kernel
theorem d_ji_1 : decode mi_ji.2.1 1 = .ok (.iload_n 1, 1) := by decide +kernel
theorem d_ji_2 : decode mi_ji.2.1 2 = .ok (.getstatic 1053, 3) := by decide +kernel
theorem d_ji_5 : decode mi_ji.2.1 5 = .ok (.invokestatic 1059, 3) := by decide +kernel
theorem d_ji_8 : decode mi_ji.2.1 8 = .ok (.pop, 1) := by decide +kernel
theorem d_ji_9 : decode mi_ji.2.1 9 = .ok (.return_, 1) := by decide +kernel
def mi_jc : MI := (⟨"java/lang/StringLatin1", "charAt", "([BI)C"⟩, prog_28_method_2_code, 2, some .char, [])
theorem d_jc_0 : decode mi_jc.2.1 0 = .ok (.iload_n 1, 1) := by decide +kernel
theorem d_jc_1 : decode mi_jc.2.1 1 = .ok (.aload_n 0, 1) := by decide +kernel
theorem d_jc_2 : decode mi_jc.2.1 2 = .ok (.arraylength, 1) := by decide +kernel
theorem d_jc_3 : decode mi_jc.2.1 3 = .ok (.invokestatic 9, 3) := by decide +kernel
theorem d_jc_6 : decode mi_jc.2.1 6 = .ok (.aload_n 0, 1) := by decide +kernel
theorem d_jc_7 : decode mi_jc.2.1 7 = .ok (.iload_n 1, 1) := by decide +kernel
theorem d_jc_8 : decode mi_jc.2.1 8 = .ok (.baload, 1) := by decide +kernel
theorem d_jc_9 : decode mi_jc.2.1 9 = .ok (.sipush (255), 3) := by decide +kernel
theorem d_jc_12 : decode mi_jc.2.1 12 = .ok (.iand, 1) := by decide +kernel
theorem d_jc_13 : decode mi_jc.2.1 13 = .ok (.i2c, 1) := by decide +kernel
theorem d_jc_14 : decode mi_jc.2.1 14 = .ok (.ireturn, 1) := by decide +kernel
def mi_js : MI := (⟨"java/lang/String", "charAt", "(I)C"⟩, prog_27_method_56_code, 2, some .char, [])
theorem d_js_0 : decode mi_js.2.1 0 = .ok (.aload_n 0, 1) := by decide +kernel
theorem d_js_1 : decode mi_js.2.1 1 = .ok (.invokevirtual 492, 3) := by decide +kernel
theorem d_js_4 : decode mi_js.2.1 4 = .ok (.ifCond .eq (12), 3) := by decide +kernel
theorem d_js_7 : decode mi_js.2.1 7 = .ok (.aload_n 0, 1) := by decide +kernel
theorem d_js_8 : decode mi_js.2.1 8 = .ok (.getfield 9, 3) := by decide +kernel
theorem d_js_11 : decode mi_js.2.1 11 = .ok (.iload_n 1, 1) := by decide +kernel
theorem d_js_12 : decode mi_js.2.1 12 = .ok (.invokestatic 495, 3) := by decide +kernel
theorem d_js_15 : decode mi_js.2.1 15 = .ok (.ireturn, 1) := by decide +kernel
theorem cs_jl : mj_CS TT mi_jl 0 := ⟨pwTT, (ttk_6 (List.mem_of_getElem? (i := 86) (by decide +kernel)) (by decide +kernel)), (ttk_1 (List.mem_of_getElem? (i := 23) (by decide +kernel)) (by decide +kernel)), ⟨by decide +kernel, by decide +kernel⟩, by decide +kernel⟩
theorem cs_jp : mj_CS TT mi_jp 3 := ⟨pwTT, (ttk_6 (List.mem_of_getElem? (i := 99) (by decide +kernel)) (by decide +kernel)), (ttk_1 (List.mem_of_getElem? (i := 26) (by decide +kernel)) (by decide +kernel)), ⟨by decide +kernel, by decide +kernel⟩, by decide +kernel⟩
theorem cs_ji : mj_CS TT mi_ji 2 := ⟨pwTT, (ttk_6 (List.mem_of_getElem? (i := 94) (by decide +kernel)) (by decide +kernel)), (ttk_1 (List.mem_of_getElem? (i := 23) (by decide +kernel)) (by decide +kernel)), ⟨by decide +kernel, by decide +kernel⟩, by decide +kernel⟩
theorem cs_jc : mj_CS TT mi_jc 2 := ⟨pwTT, (ttk_6 (List.mem_of_getElem? (i := 91) (by decide +kernel)) (by decide +kernel)), (ttk_1 (List.mem_of_getElem? (i := 25) (by decide +kernel)) (by decide +kernel)), ⟨by decide +kernel, by decide +kernel⟩, by decide +kernel⟩
theorem cs_js : mj_CS TT mi_js 1 := ⟨pwTT, (ttk_6 (List.mem_of_getElem? (i := 82) (by decide +kernel)) (by decide +kernel)), (ttk_1 (List.mem_of_getElem? (i := 23) (by decide +kernel)) (by decide +kernel)), ⟨by decide +kernel, by decide +kernel⟩, by decide +kernel⟩
def kdb (j : Nat) : Int32 := match j with | 0 => 97 | 1 => 111 | 2 => 120 | 3 => 110 | 4 => 114 | 5 => 98 | _ => 118
/-- what the start gives of the constant of the law -/
def HXC (X : XT) : Prop :=
  (∀ (A : Nat → Prop) (sp : Nat → Nat) (U : State) (H : Heap), X A sp U H → vk_R "MiterhouseLaw" 108 "aoxnrbv" (sp 3) U ∧ va_O "java/lang/String" (sp 3) A U H ∧ va_OF "java/lang/String" "value" "[B" (.ref (sp 4)) (sp 3) A U H ∧ va_OF "java/lang/String" "coder" "B" (.int 0) (sp 3) A U H ∧ va_Z "java/lang/String" "COMPACT_STRINGS" "Z" (.int 1) A U H) ∧
  mj_XA X 4 .byte 7 (fun j => .int (kdb j)) ∧
  (mj_XZ X 5 "jdk/internal/util/Preconditions" "SIOOBE_FORMATTER" "Ljava/util/function/BiFunction;" ∨ (∀ (A : Nat → Prop) (sp : Nat → Nat) (U : State) (H : Heap), X A sp U H → va_Z "jdk/internal/util/Preconditions" "SIOOBE_FORMATTER" "Ljava/util/function/BiFunction;" .null A U H))
variable {cl : List vw_C} {X : XT} {mi : MI} {fr lo : Nat} {P : Option Value → mH → Prop} {PX : String → mH → Prop} {kc ks pc : Nat} {L : List (Nat × Value)} {S : List Value} {M : mH}
theorem lx_ldcX {index : Nat} {tx : String} (hX : ∀ (A : Nat → Prop) (sp : Nat → Nat) (U : State) (H : Heap), X A sp U H → vk_R mi.1.cls index tx (sp 3) U) (d : decode mi.2.1 pc = .ok (.ldc index, 2)) (kk : LX TT cl X mi fr lo P PX kc ks (pc + 2) L (.retAddr 3 :: S) M) : LX TT cl X mi fr lo P PX kc ks pc L S M := by
  intro p l e R s m args below meth c Qc XC free D sp A as0 F kq kx as L1 S1 H locs cells slots ls h0 hW hS hl hL hSt hc hs
  have hXs := F.2.2.2.2.2.2.2.2.2.2.2.2.2.2.1
  exact va_ldcS F.1 F.2.1 F.2.2.2.1 (hX A sp s s.heap hXs) d (kk p l e R s m args below meth c Qc XC free D sp A as0 F kq kx as L1 _ H locs cells slots ls h0 hW hS hl hL ⟨⟨sp 3, rfl, Or.inr rfl⟩, hSt⟩ hc hs)
theorem lx_xgetA {index k k2 : Nat} {C n ds : String} (h0k : ¬ k = 0) (hX : ∀ (A : Nat → Prop) (sp : Nat → Nat) (U : State) (H : Heap), X A sp U H → va_OF C n ds (.ref (sp k2)) (sp k) A U H) (hl1 : Cond.fieldLink mi.1.cls index C n ds ∈ TT) (d : decode mi.2.1 pc = .ok (.getfield index, 3)) (kk : LX TT cl X mi fr lo P PX kc ks (pc + 3) L (.retAddr k2 :: S) M) : LX TT cl X mi fr lo P PX kc ks pc L (.retAddr k :: S) M := by
  intro p l e R s m args below meth c Qc XC free D sp A as0 F kq kx as L1 S1 H locs cells slots ls h0 hW hS hl hL hSt hc hs
  have hXs := F.2.2.2.2.2.2.2.2.2.2.2.2.2.2.1
  have h9 := mj_al_cons hSt
  clear hSt
  obtain ⟨w, S1, rfl, wr, hSt⟩ := h9
  rw [mj_rk h0k wr]
  exact vk_getf F.1 F.2.1 (hX A sp s s.heap hXs) hS F.2.2.2.1 (F.2.2.2.2.1 _ hl1) (fun _ h => h) d (kk p l e R s m args below meth c Qc XC free D sp A as0 F kq kx as L1 _ H locs cells slots ls h0 hW hS hl hL ⟨⟨sp k2, rfl, Or.inr rfl⟩, hSt⟩ hc hs)
theorem lx_xgetI {index k : Nat} {v : Int32} {C n ds : String} (h0k : ¬ k = 0) (hX : ∀ (A : Nat → Prop) (sp : Nat → Nat) (U : State) (H : Heap), X A sp U H → va_OF C n ds (.int v) (sp k) A U H) (hl1 : Cond.fieldLink mi.1.cls index C n ds ∈ TT) (d : decode mi.2.1 pc = .ok (.getfield index, 3)) (kk : LX TT cl X mi fr lo P PX kc ks (pc + 3) L (.int v :: S) M) : LX TT cl X mi fr lo P PX kc ks pc L (.retAddr k :: S) M := by
  intro p l e R s m args below meth c Qc XC free D sp A as0 F kq kx as L1 S1 H locs cells slots ls h0 hW hS hl hL hSt hc hs
  have hXs := F.2.2.2.2.2.2.2.2.2.2.2.2.2.2.1
  have h9 := mj_al_cons hSt
  clear hSt
  obtain ⟨w, S1, rfl, wr, hSt⟩ := h9
  rw [mj_rk h0k wr]
  exact vk_getf F.1 F.2.1 (hX A sp s s.heap hXs) hS F.2.2.2.1 (F.2.2.2.2.1 _ hl1) (fun _ h => h) d (kk p l e R s m args below meth c Qc XC free D sp A as0 F kq kx as L1 _ H locs cells slots ls h0 hW hS hl hL ⟨rfl, hSt⟩ hc hs)
theorem lx_getsI {index : Nat} {v : Int32} {C n ds : String} (hX : ∀ (A : Nat → Prop) (sp : Nat → Nat) (U : State) (H : Heap), X A sp U H → va_Z C n ds (.int v) A U H) (hl1 : Cond.fieldLink mi.1.cls index C n ds ∈ TT) (d : decode mi.2.1 pc = .ok (.getstatic index, 3)) (kk : LX TT cl X mi fr lo P PX kc ks (pc + 3) L (.int v :: S) M) : LX TT cl X mi fr lo P PX kc ks pc L S M := by
  intro p l e R s m args below meth c Qc XC free D sp A as0 F kq kx as L1 S1 H locs cells slots ls h0 hW hS hl hL hSt hc hs
  have hXs := F.2.2.2.2.2.2.2.2.2.2.2.2.2.2.1
  exact va_gets F.1 F.2.1 (hX A sp s s.heap hXs) hS F.2.2.2.1 (F.2.2.2.2.1 _ hl1) (fun _ h => h) d (kk p l e R s m args below meth c Qc XC free D sp A as0 F kq kx as L1 _ H locs cells slots ls h0 hW hS hl hL ⟨rfl, hSt⟩ hc hs)
theorem lx_getsN {index : Nat} {v : Int32} {C n ds : String} (hX : ∀ (A : Nat → Prop) (sp : Nat → Nat) (U : State) (H : Heap), X A sp U H → va_Z C n ds (.null) A U H) (hl1 : Cond.fieldLink mi.1.cls index C n ds ∈ TT) (d : decode mi.2.1 pc = .ok (.getstatic index, 3)) (kk : LX TT cl X mi fr lo P PX kc ks (pc + 3) L (.null :: S) M) : LX TT cl X mi fr lo P PX kc ks pc L S M := by
  intro p l e R s m args below meth c Qc XC free D sp A as0 F kq kx as L1 S1 H locs cells slots ls h0 hW hS hl hL hSt hc hs
  have hXs := F.2.2.2.2.2.2.2.2.2.2.2.2.2.2.1
  exact va_gets F.1 F.2.1 (hX A sp s s.heap hXs) hS F.2.2.2.1 (F.2.2.2.2.1 _ hl1) (fun _ h => h) d (kk p l e R s m args below meth c Qc XC free D sp A as0 F kq kx as L1 _ H locs cells slots ls h0 hW hS hl hL ⟨rfl, hSt⟩ hc hs)
theorem lx_sbaload {k N : Nat} {j : Int32} {f : Nat → Value} {x : Int32} (d : decode mi.2.1 pc = .ok (.baload, 1)) (h0k : ¬ k = 0) (hX : mj_XA X k .byte N f) (hin : vp_in j N) (hf : f j.toNatClampNeg = .int x) (kk : LX TT cl X mi fr lo P PX kc ks (pc + 1) L (.int x :: S) M) : LX TT cl X mi fr lo P PX kc ks pc L (.int j :: .retAddr k :: S) M := by
  intro p l e R s m args below meth c Qc XC free D sp A as0 F kq kx as L1 S1 H locs cells slots ls h0 hW hS hl hL hSt hc hs
  have hXs := F.2.2.2.2.2.2.2.2.2.2.2.2.2.2.1
  have h9 := mj_al_cons hSt
  clear hSt
  obtain ⟨w, S1, rfl, rfl, hSt⟩ := h9
  have h9 := mj_al_cons hSt
  clear hSt
  obtain ⟨w, S1, rfl, wr, hSt⟩ := h9
  rw [mj_rk h0k wr]
  exact va_tb F.1 F.2.1 (hX A sp s s.heap hXs) hS hin hf d (kk p l e R s m args below meth c Qc XC free D sp A as0 F kq kx as L1 _ H locs cells slots ls h0 hW hS hl hL ⟨rfl, hSt⟩ hc hs)
theorem mj_xrecv {E : String} {t : Nat} {A : Nat → Prop} {s : State} {H : Heap} {locs : List Loc} (h : va_O E t A s s.heap) (hS : va_S A s.heap H locs) : ∃ cell : Cell, H[t]? = some cell ∧ cell.vm.isStatics = false ∧ s.vm.findClass E = some cell.cls := by
  obtain ⟨cell, h1, h2, h3, -⟩ := h.kept hS.2.1
  exact ⟨cell, h1, h2, h3⟩
theorem lx_xvirtual {ci : MI} {fr1 lo1 kc1 ks1 index k : Nat} {P1 : Option Value → mH → Prop} {PX1 : String → mH → Prop} {a : List Value} {C : String} (h0k : ¬ k = 0) (hXO : ∀ (A : Nat → Prop) (sp : Nat → Nat) (U : State) (H : Heap), X A sp U H → va_O C (sp k) A U H) (d : decode mi.2.1 pc = .ok (.invokevirtual index, 3)) (hc : mj_CS TT ci a.length) (hh : ci.2.2.2.2 = []) (hl1 : Cond.methodLink mi.1.cls index ci.1 ∈ TT) (hs1 : Cond.instanceMethod ci.1 ∈ TT) (hs2 : Cond.selects C ci.1 ci.1 ∈ TT)
    (he : EV TT cl X ci fr1 lo1 kc1 ks1 (.retAddr k :: a) M P1 PX1)
    (hf : fr1 + 1 ≤ fr ∧ 8 + (ci.2.2.1 + 11) + lo1 ≤ lo) (hst : (S.map fun v => v.category).sum ≤ 8)
    (kx : ∀ (E : String) (M1 : mH), PX1 E M1 → LT TT cl X mi fr lo P PX kc ks pc L E M1)
    (kk : ∀ (v : Option Value) (M1 : mH), P1 v M1 → LX TT cl X mi fr lo P PX kc ks (pc + 3) L (v.toList ++ S) M1) : LX TT cl X mi fr lo P PX (kc1 + kc) (ks1 + ks) pc L (a.reverse ++ .retAddr k :: S) M := by
  intro p l e R s m args below meth c Qc XC free D sp A as0 F kq kx0 as L1 S1 H locs cells slots ls h0 hW hS hl hL hSt hcs hss
  obtain ⟨y, cc, maxL, ret, hh9⟩ := ci
  cases (show hh9 = [] from hh)
  obtain ⟨ar, rest, rfl, har, hrest⟩ := mj_al_split hSt
  have hz9 := mj_al_cons hrest
  clear hrest
  obtain ⟨b9, rest, rfl, wr, hrest⟩ := hz9
  have hb9 := mj_rk h0k wr
  subst hb9
  have ha1 : mj_al (mj_vr as sp) a ar.reverse := by
    have := mj_al_rev har
    rwa [List.reverse_reverse] at this
  have hrev : ar ++ .ref (sp k) :: rest = (ar.reverse).reverse ++ .ref (sp k) :: rest := by rw [List.reverse_reverse]
  have hcode : (mj_cw (y, cc, maxL, ret, ([] : List (Nat × Nat × Nat × Nat)))) ∈ TT := hc.2.1
  have hr := vx_runV (e := e) (H := H) (locs := locs) (cells := cells) (slots := slots) (g := F0 m pc ls (ar ++ .ref (sp k) :: rest)) (rest := rest) (below := below) (meth := meth) (n := a.length) (As := ar.reverse) (b := sp k) (C := C) (maxL := maxL) (ret := ret) (bytes := cc) ⟨F.1, F.2.1, F.2.2.1, F.2.2.2.1, F.2.2.2.2.1⟩ (he l D sp as (.ref (sp k) :: ar.reverse) H.size F.2.2.2.2.2.2.2.2.2.1 ⟨⟨sp k, rfl, Or.inr rfl⟩, ha1⟩)
    ⟨⟨rfl, rfl, Nat.le_trans hf.1 F.2.2.2.2.2.2.2.2.2.2.1, Nat.le_trans hf.2 F.2.2.2.2.2.2.2.2.2.2.2.1, mj_CS_ws hc F.2.2.2.2.1, List.mem_cons_self, F.2.2.2.2.1 _ hcode, F.2.2.2.2.1 _ hc.2.2.1, hc.2.2.2.1, mj_CS_n hc, F.2.2.2.2.1 _ hl1⟩, F.2.2.2.2.1 _ hs1, F.2.2.2.2.1 _ hs2⟩
    ⟨mj_blind F.2.2.2.2.2.2.2.2.2.2.2.2.2.2.2, mj_xrecv (hXO A sp s s.heap F.2.2.2.2.2.2.2.2.2.2.2.2.2.2.1) hS, mj_pre (l := l) F.2.2.2.2.2.2.2.2.2.2.2.2.2.2.2 F.2.2.2.2.2.2.2.2.2.2.2.2.2.2.1 F.2.2.2.2.2.2.2.2.2.2.2.2.1 hW hS⟩ rfl (mj_al_len ha1) hl.1 hrev (by show 2 * 0 + _ ≤ 8; rw [mj_al_cat hrest]; omega) d ⟨by omega, by omega⟩
  refine mj_ret hr hW hS F.2.2.2.2.2.2.2.2.2.2.2.2.1 ?_ ?_
  · intro E M1 as1 ce q H1 locs1 h1 h2 h3 h4 h5 h6 h7
    exact kx E M1 h1 p l e R s m args below meth c Qc XC free D sp A as0 F kq kx0 as1 L1 rest H1 locs1 (cells + kc1) (slots + ks1) ls q ce (mj_le_tr h0 h2) h3 h4 hl (mj_al_mono (fun _ _ h => mj_lr_mono h2 h) hL) (by omega) (by omega) h5 h6 h7
  · intro v w M1 as1 H1 locs1 h1 h2 h3 h4 h5
    refine kk v M1 h1 p l e R s m args below meth c Qc XC free D sp A as0 F kq kx0 as1 L1 _ H1 locs1 (cells + kc1) (slots + ks1) ls (mj_le_tr h0 h3) h4 h5 hl (mj_al_mono (fun _ _ h => mj_lr_mono h3 h) hL) ?_ (by omega) (by omega)
    have hrest1 := mj_al_mono (fun _ _ h => mj_vr_mono h3 h) hrest
    cases v with
    | none => rw [show w = none from h2]; exact hrest1
    | some v => obtain ⟨w', rfl, hv⟩ := h2; exact ⟨hv, hrest1⟩
theorem ev_jl (hX : mj_XOK X) (hc : HXC X) : EV TT cl X mi_jl (40 + 0) (1000 + 200 * 0) 0 0 [.retAddr 3] M (fun v M1 => v = some (.int 1) ∧ M1 = M) (fun _ _ => False) := by
  refine ev_of hX (by decide +kernel) (Nat.le_of_ble_eq_true rfl) ?_
  refine lx_getsI (v := 1) (fun A sp U H h => (hc.1 A sp U H h).2.2.2.2) (ttk_6 (List.mem_of_getElem? (i := 87) (by decide +kernel)) (by decide +kernel)) d_jl_0 ?_
  refine lx_if_eq d_jl_3 (tgt := 17) (by decide) (fun h => absurd h (by decide)) (fun _ => ?_)
  refine lx_aload_n d_jl_6 rfl rfl rfl ?_
  refine lx_xgetI (k := 3) (by decide) (fun A sp U H h => (hc.1 A sp U H h).2.2.2.1) (ttk_6 (List.mem_of_getElem? (i := 171) (by decide +kernel)) (by decide +kernel)) d_jl_7 ?_
  refine lx_if_ne d_jl_10 (tgt := 17) (by decide) (fun h => absurd rfl h) (fun _ => ?_)
  refine lx_iconst d_jl_13 (v := 1) rfl ?_
  refine lx_goto d_jl_14 (tgt := 18) (by decide) ?_
  exact lx_ireturn d_jl_18 rfl rfl ⟨rfl, rfl⟩
theorem j7 {j : Nat} (hj : j < 7) : ¬ Int32.ofInt ((j : Nat) : Int) < 0 ∧ Int32.ofInt ((j : Nat) : Int) < 7 := by
  refine ⟨?_, ?_⟩
  · rw [oi_0, oi_lt (by omega) (by omega)]; omega
  · rw [show (7 : Int32) = Int32.ofInt 7 from rfl, oi_lt (by omega) (by omega)]; omega
theorem ev_jp (hX : mj_XOK X) {j : Nat} (hj : j < 7) {v3 : Value} (hv3 : v3 = .retAddr 5 ∨ v3 = .null) : EV TT cl X mi_jp (40 + 0) (1000 + 200 * 0) 0 0 [.int (Int32.ofInt ((j : Nat) : Int)), .int 7, v3] M (fun v M1 => v = some (.int (Int32.ofInt ((j : Nat) : Int))) ∧ M1 = M) (fun _ _ => False) := by
  rcases hv3 with rfl | rfl
  · refine ev_of hX (by decide +kernel) (Nat.le_of_ble_eq_true rfl) ?_
    refine lx_iload_n d_jp_0 rfl rfl ?_
    refine lx_if_lt d_jp_1 (tgt := 9) (by decide) (fun h => absurd h (j7 hj).1) (fun _ => ?_)
    refine lx_iload_n d_jp_4 rfl rfl ?_
    refine lx_iload_n d_jp_5 rfl rfl ?_
    refine lx_icmp_lt d_jp_6 (tgt := 16) (by decide) (fun _ => ?_) (fun h => absurd (j7 hj).2 h)
    refine lx_iload_n d_jp_16 rfl rfl ?_
    exact lx_ireturn d_jp_17 rfl rfl ⟨rfl, rfl⟩
  · refine ev_of hX (by decide +kernel) (Nat.le_of_ble_eq_true rfl) ?_
    refine lx_iload_n d_jp_0 rfl rfl ?_
    refine lx_if_lt d_jp_1 (tgt := 9) (by decide) (fun h => absurd h (j7 hj).1) (fun _ => ?_)
    refine lx_iload_n d_jp_4 rfl rfl ?_
    refine lx_iload_n d_jp_5 rfl rfl ?_
    refine lx_icmp_lt d_jp_6 (tgt := 16) (by decide) (fun _ => ?_) (fun h => absurd (j7 hj).2 h)
    refine lx_iload_n d_jp_16 rfl rfl ?_
    exact lx_ireturn d_jp_17 rfl rfl ⟨rfl, rfl⟩
theorem ev_ji (hX : mj_XOK X) (hc : HXC X) {j : Nat} (hj : j < 7) : EV TT cl X mi_ji (40 + 1) (1000 + 200 * 1) 0 0 [.int (Int32.ofInt ((j : Nat) : Int)), .int 7] M (fun v M1 => v = none ∧ M1 = M) (fun _ _ => False) := by
  refine ev_of hX (by decide +kernel) (Nat.le_of_ble_eq_true rfl) ?_
  refine lx_iload_n d_ji_0 rfl rfl ?_
  refine lx_iload_n d_ji_1 rfl rfl ?_
  rcases hc.2.2 with hz | hz
  · refine lx_getstatic (k := 5) d_ji_2 (by decide) hz (ttk_6 (List.mem_of_getElem? (i := 95) (by decide +kernel)) (by decide +kernel)) ?_
    refine lx_static (fr := 40 + 1) (lo := 1000 + 200 * 1) (kc := 0) (ks := 0) (a := [.int (Int32.ofInt ((j : Nat) : Int)), .int 7, .retAddr 5]) (S := []) d_ji_5 cs_jp rfl (ttk_6 (List.mem_of_getElem? (i := 97) (by decide +kernel)) (by decide +kernel)) (ttk_6 (List.mem_of_getElem? (i := 98) (by decide +kernel)) (by decide +kernel)) (ev_jp hX hj (Or.inl rfl)) ⟨by decide, by decide⟩ (Nat.le_of_ble_eq_true rfl) (fun _ _ q => q.elim) (fun v M1 w => ?_)
    obtain ⟨rfl, rfl⟩ := w
    refine lx_pop d_ji_8 rfl ?_
    exact lx_return d_ji_9 rfl ⟨rfl, rfl⟩
  · refine lx_getsN (v := 0) hz (ttk_6 (List.mem_of_getElem? (i := 95) (by decide +kernel)) (by decide +kernel)) d_ji_2 ?_
    refine lx_static (fr := 40 + 1) (lo := 1000 + 200 * 1) (kc := 0) (ks := 0) (a := [.int (Int32.ofInt ((j : Nat) : Int)), .int 7, .null]) (S := []) d_ji_5 cs_jp rfl (ttk_6 (List.mem_of_getElem? (i := 97) (by decide +kernel)) (by decide +kernel)) (ttk_6 (List.mem_of_getElem? (i := 98) (by decide +kernel)) (by decide +kernel)) (ev_jp hX hj (Or.inr rfl)) ⟨by decide, by decide⟩ (Nat.le_of_ble_eq_true rfl) (fun _ _ q => q.elim) (fun v M1 w => ?_)
    obtain ⟨rfl, rfl⟩ := w
    refine lx_pop d_ji_8 rfl ?_
    exact lx_return d_ji_9 rfl ⟨rfl, rfl⟩
theorem ev_jc (hX : mj_XOK X) (hc : HXC X) {j : Nat} (hj : j < 7) : EV TT cl X mi_jc (40 + 2) (1000 + 200 * 2) 0 0 [.retAddr 4, .int (Int32.ofInt ((j : Nat) : Int))] M (fun v M1 => v = some (.int (kdb j)) ∧ M1 = M) (fun _ _ => False) := by
  refine ev_of hX (by decide +kernel) (Nat.le_of_ble_eq_true rfl) ?_
  refine lx_iload_n d_jc_0 rfl rfl ?_
  refine lx_aload_n d_jc_1 rfl rfl rfl ?_
  refine lx_sarraylength (k := 4) d_jc_2 (by decide) hc.2.1 ?_
  refine lx_static (fr := 40 + 2) (lo := 1000 + 200 * 2) (kc := 0) (ks := 0) (a := [.int (Int32.ofInt ((j : Nat) : Int)), .int 7]) (S := []) d_jc_3 cs_ji rfl (ttk_6 (List.mem_of_getElem? (i := 92) (by decide +kernel)) (by decide +kernel)) (ttk_6 (List.mem_of_getElem? (i := 93) (by decide +kernel)) (by decide +kernel)) (ev_ji hX hc hj) ⟨by decide, by decide⟩ (Nat.le_of_ble_eq_true rfl) (fun _ _ q => q.elim) (fun v M1 w => ?_)
  obtain ⟨rfl, rfl⟩ := w
  refine lx_aload_n d_jc_6 rfl rfl rfl ?_
  refine lx_iload_n d_jc_7 rfl rfl ?_
  refine lx_sbaload (k := 4) (x := kdb j) d_jc_8 (by decide) hc.2.1 (oi_in (by omega) (by omega) (by decide)) (by rw [oi_n (by omega), Int.toNat_natCast]) ?_
  refine lx_sipush d_jc_9 (v := 255) (by decide +kernel) ?_
  refine lx_iand d_jc_12 ?_
  refine lx_i2c d_jc_13 ?_
  have e : ((kdb j &&& 255).toUInt32 % 65536).toInt32 = kdb j := by
    have : ∀ j, j < 7 → ((kdb j &&& 255).toUInt32 % 65536).toInt32 = kdb j := by decide +kernel
    exact this j hj
  rw [e]
  refine lx_ireturn d_jc_14 rfl ?_ ⟨rfl, rfl⟩
  have : ∀ j, j < 7 → narrow .char (.int (kdb j)) = .int (kdb j) := by decide +kernel
  exact this j hj
theorem ev_js (hX : mj_XOK X) (hc : HXC X) {j : Nat} (hj : j < 7) : EV TT cl X mi_js (40 + 3) (1000 + 200 * 3) 0 0 [.retAddr 3, .int (Int32.ofInt ((j : Nat) : Int))] M (fun v M1 => v = some (.int (kdb j)) ∧ M1 = M) (fun _ _ => False) := by
  refine ev_of hX (by decide +kernel) (Nat.le_of_ble_eq_true rfl) ?_
  refine lx_aload_n d_js_0 rfl rfl rfl ?_
  refine lx_xvirtual (fr := 40 + 3) (lo := 1000 + 200 * 3) (kc := 0) (ks := 0) (a := []) (S := []) (C := "java/lang/String") (k := 3) (by decide) (fun A sp U H h => (hc.1 A sp U H h).2.1) d_js_1 cs_jl rfl (ttk_6 (List.mem_of_getElem? (i := 83) (by decide +kernel)) (by decide +kernel)) (ttk_6 (List.mem_of_getElem? (i := 84) (by decide +kernel)) (by decide +kernel)) (ttk_6 (List.mem_of_getElem? (i := 85) (by decide +kernel)) (by decide +kernel)) (ev_jl hX hc) ⟨by decide, by decide⟩ (Nat.le_of_ble_eq_true rfl) (fun _ _ q => q.elim) (fun v M1 w => ?_)
  obtain ⟨rfl, rfl⟩ := w
  refine lx_if_eq d_js_4 (tgt := 16) (by decide) (fun h => absurd h (by decide)) (fun _ => ?_)
  refine lx_aload_n d_js_7 rfl rfl rfl ?_
  refine lx_xgetA (k := 3) (k2 := 4) (by decide) (fun A sp U H h => (hc.1 A sp U H h).2.2.1) (ttk_6 (List.mem_of_getElem? (i := 172) (by decide +kernel)) (by decide +kernel)) d_js_8 ?_
  refine lx_iload_n d_js_11 rfl rfl ?_
  refine lx_static (fr := 40 + 3) (lo := 1000 + 200 * 3) (kc := 0) (ks := 0) (a := [.retAddr 4, .int (Int32.ofInt ((j : Nat) : Int))]) (S := []) d_js_12 cs_jc rfl (ttk_6 (List.mem_of_getElem? (i := 89) (by decide +kernel)) (by decide +kernel)) (ttk_6 (List.mem_of_getElem? (i := 90) (by decide +kernel)) (by decide +kernel)) (ev_jc hX hc hj) ⟨by decide, by decide⟩ (Nat.le_of_ble_eq_true rfl) (fun _ _ q => q.elim) (fun v M1 w => ?_)
  obtain ⟨rfl, rfl⟩ := w
  refine lx_ireturn d_js_15 rfl ?_ ⟨rfl, rfl⟩
  have : ∀ j, j < 7 → narrow .char (.int (kdb j)) = .int (kdb j) := by decide +kernel
  exact this j hj
end CH1
section CH2
variable {X : XT} {fr lo : Nat} {D : mF} {P : Option Value → mF → Prop} {PX : String → mF → Prop} {kc ks : Nat} {L : List (Nat × Value)} {S : List Value} {h : mF}
theorem gi_ldcX (hc : HXC X) (k : LXf TT cl6 X mi_W_netsBy fr lo D P PX kc ks (136 + 2) L (.retAddr 3 :: S) h) : LXf TT cl6 X mi_W_netsBy fr lo D P PX kc ks 136 L S h := by
  intro π0 π M hR hL hS hA hI
  exact lx_ldcX (fun A sp U H h => (hc.1 A sp U H h).1) d_W_netsBy_136 (k π0 π M hR hL (mcS_cons.mpr ⟨trivial, hS⟩) hA hI)
theorem gi_charAt {lev j : Nat} (hX : mj_XOK X) (hc : HXC X) (hj : j < 7) (hlev : 3 < lev) (hst : (S.map fun v => v.category).sum ≤ 8) (k : LXf TT cl6 X mi_W_netsBy (40 + lev) (1000 + 200 * lev) D P PX kc ks (151 + 3) L (.int (kdb j) :: S) h) : LXf TT cl6 X mi_W_netsBy (40 + lev) (1000 + 200 * lev) D P PX kc ks 151 L (.int (Int32.ofInt ((j : Nat) : Int)) :: .retAddr 3 :: S) h := by
  intro π0 π M hR hL hS hA hI
  have hSS := (mcS_cons.mp (mcS_cons.mp hS).2).2
  have hst2 : ((rnS π S).map fun v => v.category).sum ≤ 8 := by rw [rnS_sum]; exact hst
  have g := lx_xvirtual (mi := mi_W_netsBy) (fr := 40 + lev) (lo := 1000 + 200 * lev) (P := mPf D π0 P) (PX := mPXf D π0 PX) (kc := kc) (ks := ks) (L := rnL π L) (S := rnS π S) (M := M) (a := [.int (Int32.ofInt ((j : Nat) : Int))]) (C := "java/lang/String") (k := 3) (by decide) (fun A sp U H h => (hc.1 A sp U H h).2.1) d_W_netsBy_151 cs_js rfl (ttk_6 (List.mem_of_getElem? (i := 79) (by decide +kernel)) (by decide +kernel)) (ttk_6 (List.mem_of_getElem? (i := 80) (by decide +kernel)) (by decide +kernel)) (ttk_6 (List.mem_of_getElem? (i := 81) (by decide +kernel)) (by decide +kernel)) (ev_js hX hc hj) ⟨by omega, by show 8 + (2 + 11) + _ ≤ _; omega⟩ hst2 (fun _ _ q => q.elim) (fun v M1 w => by
    obtain ⟨rfl, rfl⟩ := w
    exact k π0 π M1 hR hL (mcS_cons.mpr ⟨trivial, hSS⟩) hA hI)
  rw [Nat.zero_add, Nat.zero_add] at g
  exact g
end CH2
