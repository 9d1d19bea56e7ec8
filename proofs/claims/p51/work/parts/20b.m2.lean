section MF2
variable {TT : List Cond} {cl : List vw_C} {X : XT} {mi : MI} {fr lo : Nat} {D : mF} {P : Option Value → mF → Prop} {PX : String → mF → Prop} {kc ks pc : Nat} {L : List (Nat × Value)} {S : List Value} {h : mF}
theorem lf_iconst {n : Int} {v : Int32} (d : decode mi.2.1 pc = .ok (.iconst n, 1)) (hv : Int32.ofInt n = v) (k : LXf TT cl X mi fr lo D P PX kc ks (pc + 1) L (.int v :: S) h) : LXf TT cl X mi fr lo D P PX kc ks pc L S h := by
  intro π0 π M hR hL hS hA hI
  exact lx_iconst d hv (k π0 π M hR hL (mcS_cons.mpr ⟨trivial, hS⟩) hA hI)
theorem lf_bipush {n : Int} {v : Int32} (d : decode mi.2.1 pc = .ok (.bipush n, 2)) (hv : (Int8.ofInt n).toInt32 = v) (k : LXf TT cl X mi fr lo D P PX kc ks (pc + 2) L (.int v :: S) h) : LXf TT cl X mi fr lo D P PX kc ks pc L S h := by
  intro π0 π M hR hL hS hA hI
  exact lx_bipush d hv (k π0 π M hR hL (mcS_cons.mpr ⟨trivial, hS⟩) hA hI)
theorem lf_sipush {n : Int} {v : Int32} (d : decode mi.2.1 pc = .ok (.sipush n, 3)) (hv : (Int16.ofInt n).toInt32 = v) (k : LXf TT cl X mi fr lo D P PX kc ks (pc + 3) L (.int v :: S) h) : LXf TT cl X mi fr lo D P PX kc ks pc L S h := by
  intro π0 π M hR hL hS hA hI
  exact lx_sipush d hv (k π0 π M hR hL (mcS_cons.mpr ⟨trivial, hS⟩) hA hI)
theorem lf_lconst {n : Fin 2} {v : Int64} (d : decode mi.2.1 pc = .ok (.lconst n, 1)) (hv : Int64.ofNat (n : Nat) = v) (k : LXf TT cl X mi fr lo D P PX kc ks (pc + 1) L (.long v :: S) h) : LXf TT cl X mi fr lo D P PX kc ks pc L S h := by
  intro π0 π M hR hL hS hA hI
  exact lx_lconst d hv (k π0 π M hR hL (mcS_cons.mpr ⟨trivial, hS⟩) hA hI)
theorem lf_null (d : decode mi.2.1 pc = .ok (.aconst_null, 1)) (k : LXf TT cl X mi fr lo D P PX kc ks (pc + 1) L (.null :: S) h) : LXf TT cl X mi fr lo D P PX kc ks pc L S h := by
  intro π0 π M hR hL hS hA hI
  exact lx_null d (k π0 π M hR hL (mcS_cons.mpr ⟨trivial, hS⟩) hA hI)
theorem lf_fconst0 (d : decode mi.2.1 pc = .ok (.fconst 0, 1)) (k : LXf TT cl X mi fr lo D P PX kc ks (pc + 1) L (.float 0 :: S) h) : LXf TT cl X mi fr lo D P PX kc ks pc L S h := by
  intro π0 π M hR hL hS hA hI
  exact lx_fconst0 d (k π0 π M hR hL (mcS_cons.mpr ⟨trivial, hS⟩) hA hI)
theorem lf_dconst0 (d : decode mi.2.1 pc = .ok (.dconst 0, 1)) (k : LXf TT cl X mi fr lo D P PX kc ks (pc + 1) L (.double 0 :: S) h) : LXf TT cl X mi fr lo D P PX kc ks pc L S h := by
  intro π0 π M hR hL hS hA hI
  exact lx_dconst0 d (k π0 π M hR hL (mcS_cons.mpr ⟨trivial, hS⟩) hA hI)
theorem lf_iload_n {n : Fin 4} {i : Nat} {x : Int32} (d : decode mi.2.1 pc = .ok (.iload_n n, 1)) (hi : (n : Nat) = i) (hg : mj_get L i = some (.int x)) (k : LXf TT cl X mi fr lo D P PX kc ks (pc + 1) L (.int x :: S) h) : LXf TT cl X mi fr lo D P PX kc ks pc L S h := by
  intro π0 π M hR hL hS hA hI
  exact lx_iload_n d hi (get_rn' hg) (k π0 π M hR hL (mcS_cons.mpr ⟨trivial, hS⟩) hA hI)
theorem lf_iload {i : Nat} {x : Int32} (d : decode mi.2.1 pc = .ok (.iload i, 2)) (hg : mj_get L i = some (.int x)) (k : LXf TT cl X mi fr lo D P PX kc ks (pc + 2) L (.int x :: S) h) : LXf TT cl X mi fr lo D P PX kc ks pc L S h := by
  intro π0 π M hR hL hS hA hI
  exact lx_iload d (get_rn' hg) (k π0 π M hR hL (mcS_cons.mpr ⟨trivial, hS⟩) hA hI)
theorem lf_lload_n {n : Fin 4} {i : Nat} {x : Int64} (d : decode mi.2.1 pc = .ok (.lload_n n, 1)) (hi : (n : Nat) = i) (hg : mj_get L i = some (.long x)) (k : LXf TT cl X mi fr lo D P PX kc ks (pc + 1) L (.long x :: S) h) : LXf TT cl X mi fr lo D P PX kc ks pc L S h := by
  intro π0 π M hR hL hS hA hI
  exact lx_lload_n d hi (get_rn' hg) (k π0 π M hR hL (mcS_cons.mpr ⟨trivial, hS⟩) hA hI)
theorem lf_lload {i : Nat} {x : Int64} (d : decode mi.2.1 pc = .ok (.lload i, 2)) (hg : mj_get L i = some (.long x)) (k : LXf TT cl X mi fr lo D P PX kc ks (pc + 2) L (.long x :: S) h) : LXf TT cl X mi fr lo D P PX kc ks pc L S h := by
  intro π0 π M hR hL hS hA hI
  exact lx_lload d (get_rn' hg) (k π0 π M hR hL (mcS_cons.mpr ⟨trivial, hS⟩) hA hI)
theorem lf_fload_n {n : Fin 4} {i : Nat} {x : UInt32} (d : decode mi.2.1 pc = .ok (.fload_n n, 1)) (hi : (n : Nat) = i) (hg : mj_get L i = some (.float x)) (k : LXf TT cl X mi fr lo D P PX kc ks (pc + 1) L (.float x :: S) h) : LXf TT cl X mi fr lo D P PX kc ks pc L S h := by
  intro π0 π M hR hL hS hA hI
  exact lx_fload_n d hi (get_rn' hg) (k π0 π M hR hL (mcS_cons.mpr ⟨trivial, hS⟩) hA hI)
theorem lf_fload {i : Nat} {x : UInt32} (d : decode mi.2.1 pc = .ok (.fload i, 2)) (hg : mj_get L i = some (.float x)) (k : LXf TT cl X mi fr lo D P PX kc ks (pc + 2) L (.float x :: S) h) : LXf TT cl X mi fr lo D P PX kc ks pc L S h := by
  intro π0 π M hR hL hS hA hI
  exact lx_fload d (get_rn' hg) (k π0 π M hR hL (mcS_cons.mpr ⟨trivial, hS⟩) hA hI)
theorem lf_dload_n {n : Fin 4} {i : Nat} {x : UInt64} (d : decode mi.2.1 pc = .ok (.dload_n n, 1)) (hi : (n : Nat) = i) (hg : mj_get L i = some (.double x)) (k : LXf TT cl X mi fr lo D P PX kc ks (pc + 1) L (.double x :: S) h) : LXf TT cl X mi fr lo D P PX kc ks pc L S h := by
  intro π0 π M hR hL hS hA hI
  exact lx_dload_n d hi (get_rn' hg) (k π0 π M hR hL (mcS_cons.mpr ⟨trivial, hS⟩) hA hI)
theorem lf_dload {i : Nat} {x : UInt64} (d : decode mi.2.1 pc = .ok (.dload i, 2)) (hg : mj_get L i = some (.double x)) (k : LXf TT cl X mi fr lo D P PX kc ks (pc + 2) L (.double x :: S) h) : LXf TT cl X mi fr lo D P PX kc ks pc L S h := by
  intro π0 π M hR hL hS hA hI
  exact lx_dload d (get_rn' hg) (k π0 π M hR hL (mcS_cons.mpr ⟨trivial, hS⟩) hA hI)
theorem lf_aload_n {n : Fin 4} {i : Nat} {v : Value} (d : decode mi.2.1 pc = .ok (.aload_n n, 1)) (hi : (n : Nat) = i) (hg : mj_get L i = some v) (hv : mj_isr v = true) (k : LXf TT cl X mi fr lo D P PX kc ks (pc + 1) L (v :: S) h) : LXf TT cl X mi fr lo D P PX kc ks pc L S h := by
  intro π0 π M hR hL hS hA hI
  exact lx_aload_n d hi (get_rn' hg) (rnV_isr.trans hv) (k π0 π M hR hL (mcS_cons.mpr ⟨get_mc hL hg, hS⟩) hA hI)
theorem lf_aload {i : Nat} {v : Value} (d : decode mi.2.1 pc = .ok (.aload i, 2)) (hg : mj_get L i = some v) (hv : mj_isr v = true) (k : LXf TT cl X mi fr lo D P PX kc ks (pc + 2) L (v :: S) h) : LXf TT cl X mi fr lo D P PX kc ks pc L S h := by
  intro π0 π M hR hL hS hA hI
  exact lx_aload d (get_rn' hg) (rnV_isr.trans hv) (k π0 π M hR hL (mcS_cons.mpr ⟨get_mc hL hg, hS⟩) hA hI)
theorem lf_istore_n {n : Fin 4} {i : Nat} {x : Int32} {L2 : List (Nat × Value)} (d : decode mi.2.1 pc = .ok (.istore_n n, 1)) (hi : (n : Nat) = i) (hn : i < mi.2.2.1) (hp : mj_put1 i (.int x) L = L2) (k : LXf TT cl X mi fr lo D P PX kc ks (pc + 1) L2 S h) : LXf TT cl X mi fr lo D P PX kc ks pc L (.int x :: S) h := by
  intro π0 π M hR hL hS hA hI
  exact lx_istore_n d hi hn (by rw [← hp]; exact put1_rn (π := π) (i := i) (v := (.int x)) (L := L)) (k π0 π M hR (by rw [← hp]; exact put1_mc hL trivial) ((mcS_cons.mp hS).2) hA hI)
theorem lf_istore {i : Nat} {x : Int32} {L2 : List (Nat × Value)} (d : decode mi.2.1 pc = .ok (.istore i, 2)) (hn : i < mi.2.2.1) (hp : mj_put1 i (.int x) L = L2) (k : LXf TT cl X mi fr lo D P PX kc ks (pc + 2) L2 S h) : LXf TT cl X mi fr lo D P PX kc ks pc L (.int x :: S) h := by
  intro π0 π M hR hL hS hA hI
  exact lx_istore d hn (by rw [← hp]; exact put1_rn (π := π) (i := i) (v := (.int x)) (L := L)) (k π0 π M hR (by rw [← hp]; exact put1_mc hL trivial) ((mcS_cons.mp hS).2) hA hI)
theorem lf_fstore_n {n : Fin 4} {i : Nat} {x : UInt32} {L2 : List (Nat × Value)} (d : decode mi.2.1 pc = .ok (.fstore_n n, 1)) (hi : (n : Nat) = i) (hn : i < mi.2.2.1) (hp : mj_put1 i (.float x) L = L2) (k : LXf TT cl X mi fr lo D P PX kc ks (pc + 1) L2 S h) : LXf TT cl X mi fr lo D P PX kc ks pc L (.float x :: S) h := by
  intro π0 π M hR hL hS hA hI
  exact lx_fstore_n d hi hn (by rw [← hp]; exact put1_rn (π := π) (i := i) (v := (.float x)) (L := L)) (k π0 π M hR (by rw [← hp]; exact put1_mc hL trivial) ((mcS_cons.mp hS).2) hA hI)
theorem lf_fstore {i : Nat} {x : UInt32} {L2 : List (Nat × Value)} (d : decode mi.2.1 pc = .ok (.fstore i, 2)) (hn : i < mi.2.2.1) (hp : mj_put1 i (.float x) L = L2) (k : LXf TT cl X mi fr lo D P PX kc ks (pc + 2) L2 S h) : LXf TT cl X mi fr lo D P PX kc ks pc L (.float x :: S) h := by
  intro π0 π M hR hL hS hA hI
  exact lx_fstore d hn (by rw [← hp]; exact put1_rn (π := π) (i := i) (v := (.float x)) (L := L)) (k π0 π M hR (by rw [← hp]; exact put1_mc hL trivial) ((mcS_cons.mp hS).2) hA hI)
theorem lf_lstore_n {n : Fin 4} {i : Nat} {x : Int64} {L2 : List (Nat × Value)} (d : decode mi.2.1 pc = .ok (.lstore_n n, 1)) (hi : (n : Nat) = i) (hn : i + 1 < mi.2.2.1) (hp : mj_put2 i (.long x) L = L2) (k : LXf TT cl X mi fr lo D P PX kc ks (pc + 1) L2 S h) : LXf TT cl X mi fr lo D P PX kc ks pc L (.long x :: S) h := by
  intro π0 π M hR hL hS hA hI
  exact lx_lstore_n d hi hn (by rw [← hp]; exact put2_rn (π := π) (i := i) (v := (.long x)) (L := L)) (k π0 π M hR (by rw [← hp]; exact put2_mc hL trivial) ((mcS_cons.mp hS).2) hA hI)
theorem lf_lstore {i : Nat} {x : Int64} {L2 : List (Nat × Value)} (d : decode mi.2.1 pc = .ok (.lstore i, 2)) (hn : i + 1 < mi.2.2.1) (hp : mj_put2 i (.long x) L = L2) (k : LXf TT cl X mi fr lo D P PX kc ks (pc + 2) L2 S h) : LXf TT cl X mi fr lo D P PX kc ks pc L (.long x :: S) h := by
  intro π0 π M hR hL hS hA hI
  exact lx_lstore d hn (by rw [← hp]; exact put2_rn (π := π) (i := i) (v := (.long x)) (L := L)) (k π0 π M hR (by rw [← hp]; exact put2_mc hL trivial) ((mcS_cons.mp hS).2) hA hI)
theorem lf_dstore_n {n : Fin 4} {i : Nat} {x : UInt64} {L2 : List (Nat × Value)} (d : decode mi.2.1 pc = .ok (.dstore_n n, 1)) (hi : (n : Nat) = i) (hn : i + 1 < mi.2.2.1) (hp : mj_put2 i (.double x) L = L2) (k : LXf TT cl X mi fr lo D P PX kc ks (pc + 1) L2 S h) : LXf TT cl X mi fr lo D P PX kc ks pc L (.double x :: S) h := by
  intro π0 π M hR hL hS hA hI
  exact lx_dstore_n d hi hn (by rw [← hp]; exact put2_rn (π := π) (i := i) (v := (.double x)) (L := L)) (k π0 π M hR (by rw [← hp]; exact put2_mc hL trivial) ((mcS_cons.mp hS).2) hA hI)
theorem lf_dstore {i : Nat} {x : UInt64} {L2 : List (Nat × Value)} (d : decode mi.2.1 pc = .ok (.dstore i, 2)) (hn : i + 1 < mi.2.2.1) (hp : mj_put2 i (.double x) L = L2) (k : LXf TT cl X mi fr lo D P PX kc ks (pc + 2) L2 S h) : LXf TT cl X mi fr lo D P PX kc ks pc L (.double x :: S) h := by
  intro π0 π M hR hL hS hA hI
  exact lx_dstore d hn (by rw [← hp]; exact put2_rn (π := π) (i := i) (v := (.double x)) (L := L)) (k π0 π M hR (by rw [← hp]; exact put2_mc hL trivial) ((mcS_cons.mp hS).2) hA hI)
theorem lf_astore_n {n : Fin 4} {i : Nat} {v : Value} {L2 : List (Nat × Value)} (d : decode mi.2.1 pc = .ok (.astore_n n, 1)) (hi : (n : Nat) = i) (hn : i < mi.2.2.1) (hv : mj_isr v = true) (hp : mj_put1 i v L = L2) (k : LXf TT cl X mi fr lo D P PX kc ks (pc + 1) L2 S h) : LXf TT cl X mi fr lo D P PX kc ks pc L (v :: S) h := by
  intro π0 π M hR hL hS hA hI
  exact lx_astore_n d hi hn (rnV_isr.trans hv) (by rw [← hp]; exact put1_rn (π := π) (i := i) (v := v) (L := L)) (k π0 π M hR (by rw [← hp]; exact put1_mc hL (mcS_cons.mp hS).1) ((mcS_cons.mp hS).2) hA hI)
theorem lf_astore {i : Nat} {v : Value} {L2 : List (Nat × Value)} (d : decode mi.2.1 pc = .ok (.astore i, 2)) (hn : i < mi.2.2.1) (hv : mj_isr v = true) (hp : mj_put1 i v L = L2) (k : LXf TT cl X mi fr lo D P PX kc ks (pc + 2) L2 S h) : LXf TT cl X mi fr lo D P PX kc ks pc L (v :: S) h := by
  intro π0 π M hR hL hS hA hI
  exact lx_astore d hn (rnV_isr.trans hv) (by rw [← hp]; exact put1_rn (π := π) (i := i) (v := v) (L := L)) (k π0 π M hR (by rw [← hp]; exact put1_mc hL (mcS_cons.mp hS).1) ((mcS_cons.mp hS).2) hA hI)
theorem lf_iinc {i : Nat} {n : Int} {x v : Int32} {L2 : List (Nat × Value)} (d : decode mi.2.1 pc = .ok (.iinc i n, 3)) (hg : mj_get L i = some (.int x)) (hv : x + Int32.ofInt n = v) (hn : i < mi.2.2.1) (hp : mj_put1 i (.int v) L = L2) (k : LXf TT cl X mi fr lo D P PX kc ks (pc + 3) L2 S h) : LXf TT cl X mi fr lo D P PX kc ks pc L S h := by
  intro π0 π M hR hL hS hA hI
  exact lx_iinc d (get_rn' hg) hv hn (by rw [← hp]; exact put1_rn (π := π) (i := i) (v := (.int v)) (L := L)) (k π0 π M hR (by rw [← hp]; exact put1_mc hL trivial) hS hA hI)
theorem lf_iadd {x y : Int32} (d : decode mi.2.1 pc = .ok (.iadd, 1)) (k : LXf TT cl X mi fr lo D P PX kc ks (pc + 1) L (.int (x + y) :: S) h) : LXf TT cl X mi fr lo D P PX kc ks pc L (.int y :: .int x :: S) h := by
  intro π0 π M hR hL hS hA hI
  exact lx_iadd d (k π0 π M hR hL (mcS_cons.mpr ⟨trivial, (mcS_cons.mp (mcS_cons.mp hS).2).2⟩) hA hI)
theorem lf_isub {x y : Int32} (d : decode mi.2.1 pc = .ok (.isub, 1)) (k : LXf TT cl X mi fr lo D P PX kc ks (pc + 1) L (.int (x - y) :: S) h) : LXf TT cl X mi fr lo D P PX kc ks pc L (.int y :: .int x :: S) h := by
  intro π0 π M hR hL hS hA hI
  exact lx_isub d (k π0 π M hR hL (mcS_cons.mpr ⟨trivial, (mcS_cons.mp (mcS_cons.mp hS).2).2⟩) hA hI)
theorem lf_imul {x y : Int32} (d : decode mi.2.1 pc = .ok (.imul, 1)) (k : LXf TT cl X mi fr lo D P PX kc ks (pc + 1) L (.int (x * y) :: S) h) : LXf TT cl X mi fr lo D P PX kc ks pc L (.int y :: .int x :: S) h := by
  intro π0 π M hR hL hS hA hI
  exact lx_imul d (k π0 π M hR hL (mcS_cons.mpr ⟨trivial, (mcS_cons.mp (mcS_cons.mp hS).2).2⟩) hA hI)
theorem lf_iand {x y : Int32} (d : decode mi.2.1 pc = .ok (.iand, 1)) (k : LXf TT cl X mi fr lo D P PX kc ks (pc + 1) L (.int (x &&& y) :: S) h) : LXf TT cl X mi fr lo D P PX kc ks pc L (.int y :: .int x :: S) h := by
  intro π0 π M hR hL hS hA hI
  exact lx_iand d (k π0 π M hR hL (mcS_cons.mpr ⟨trivial, (mcS_cons.mp (mcS_cons.mp hS).2).2⟩) hA hI)
theorem lf_ior {x y : Int32} (d : decode mi.2.1 pc = .ok (.ior, 1)) (k : LXf TT cl X mi fr lo D P PX kc ks (pc + 1) L (.int (x ||| y) :: S) h) : LXf TT cl X mi fr lo D P PX kc ks pc L (.int y :: .int x :: S) h := by
  intro π0 π M hR hL hS hA hI
  exact lx_ior d (k π0 π M hR hL (mcS_cons.mpr ⟨trivial, (mcS_cons.mp (mcS_cons.mp hS).2).2⟩) hA hI)
theorem lf_ixor {x y : Int32} (d : decode mi.2.1 pc = .ok (.ixor, 1)) (k : LXf TT cl X mi fr lo D P PX kc ks (pc + 1) L (.int (x ^^^ y) :: S) h) : LXf TT cl X mi fr lo D P PX kc ks pc L (.int y :: .int x :: S) h := by
  intro π0 π M hR hL hS hA hI
  exact lx_ixor d (k π0 π M hR hL (mcS_cons.mpr ⟨trivial, (mcS_cons.mp (mcS_cons.mp hS).2).2⟩) hA hI)
theorem lf_ishl {x y : Int32} (d : decode mi.2.1 pc = .ok (.ishl, 1)) (k : LXf TT cl X mi fr lo D P PX kc ks (pc + 1) L (.int (x <<< (y &&& 31)) :: S) h) : LXf TT cl X mi fr lo D P PX kc ks pc L (.int y :: .int x :: S) h := by
  intro π0 π M hR hL hS hA hI
  exact lx_ishl d (k π0 π M hR hL (mcS_cons.mpr ⟨trivial, (mcS_cons.mp (mcS_cons.mp hS).2).2⟩) hA hI)
theorem lf_ishr {x y : Int32} (d : decode mi.2.1 pc = .ok (.ishr, 1)) (k : LXf TT cl X mi fr lo D P PX kc ks (pc + 1) L (.int (x >>> (y &&& 31)) :: S) h) : LXf TT cl X mi fr lo D P PX kc ks pc L (.int y :: .int x :: S) h := by
  intro π0 π M hR hL hS hA hI
  exact lx_ishr d (k π0 π M hR hL (mcS_cons.mpr ⟨trivial, (mcS_cons.mp (mcS_cons.mp hS).2).2⟩) hA hI)
theorem lf_ladd {x y : Int64} (d : decode mi.2.1 pc = .ok (.ladd, 1)) (k : LXf TT cl X mi fr lo D P PX kc ks (pc + 1) L (.long (x + y) :: S) h) : LXf TT cl X mi fr lo D P PX kc ks pc L (.long y :: .long x :: S) h := by
  intro π0 π M hR hL hS hA hI
  exact lx_ladd d (k π0 π M hR hL (mcS_cons.mpr ⟨trivial, (mcS_cons.mp (mcS_cons.mp hS).2).2⟩) hA hI)
theorem lf_lsub {x y : Int64} (d : decode mi.2.1 pc = .ok (.lsub, 1)) (k : LXf TT cl X mi fr lo D P PX kc ks (pc + 1) L (.long (x - y) :: S) h) : LXf TT cl X mi fr lo D P PX kc ks pc L (.long y :: .long x :: S) h := by
  intro π0 π M hR hL hS hA hI
  exact lx_lsub d (k π0 π M hR hL (mcS_cons.mpr ⟨trivial, (mcS_cons.mp (mcS_cons.mp hS).2).2⟩) hA hI)
theorem lf_lmul {x y : Int64} (d : decode mi.2.1 pc = .ok (.lmul, 1)) (k : LXf TT cl X mi fr lo D P PX kc ks (pc + 1) L (.long (x * y) :: S) h) : LXf TT cl X mi fr lo D P PX kc ks pc L (.long y :: .long x :: S) h := by
  intro π0 π M hR hL hS hA hI
  exact lx_lmul d (k π0 π M hR hL (mcS_cons.mpr ⟨trivial, (mcS_cons.mp (mcS_cons.mp hS).2).2⟩) hA hI)
theorem lf_land {x y : Int64} (d : decode mi.2.1 pc = .ok (.land, 1)) (k : LXf TT cl X mi fr lo D P PX kc ks (pc + 1) L (.long (x &&& y) :: S) h) : LXf TT cl X mi fr lo D P PX kc ks pc L (.long y :: .long x :: S) h := by
  intro π0 π M hR hL hS hA hI
  exact lx_land d (k π0 π M hR hL (mcS_cons.mpr ⟨trivial, (mcS_cons.mp (mcS_cons.mp hS).2).2⟩) hA hI)
theorem lf_lor {x y : Int64} (d : decode mi.2.1 pc = .ok (.lor, 1)) (k : LXf TT cl X mi fr lo D P PX kc ks (pc + 1) L (.long (x ||| y) :: S) h) : LXf TT cl X mi fr lo D P PX kc ks pc L (.long y :: .long x :: S) h := by
  intro π0 π M hR hL hS hA hI
  exact lx_lor d (k π0 π M hR hL (mcS_cons.mpr ⟨trivial, (mcS_cons.mp (mcS_cons.mp hS).2).2⟩) hA hI)
theorem lf_lxor {x y : Int64} (d : decode mi.2.1 pc = .ok (.lxor, 1)) (k : LXf TT cl X mi fr lo D P PX kc ks (pc + 1) L (.long (x ^^^ y) :: S) h) : LXf TT cl X mi fr lo D P PX kc ks pc L (.long y :: .long x :: S) h := by
  intro π0 π M hR hL hS hA hI
  exact lx_lxor d (k π0 π M hR hL (mcS_cons.mpr ⟨trivial, (mcS_cons.mp (mcS_cons.mp hS).2).2⟩) hA hI)
theorem lf_idiv {x y : Int32} (d : decode mi.2.1 pc = .ok (.idiv, 1)) (hne : ¬ y = 0) (k : LXf TT cl X mi fr lo D P PX kc ks (pc + 1) L (.int (x / y) :: S) h) : LXf TT cl X mi fr lo D P PX kc ks pc L (.int y :: .int x :: S) h := by
  intro π0 π M hR hL hS hA hI
  exact lx_idiv d hne (k π0 π M hR hL (mcS_cons.mpr ⟨trivial, (mcS_cons.mp (mcS_cons.mp hS).2).2⟩) hA hI)
theorem lf_irem {x y : Int32} (d : decode mi.2.1 pc = .ok (.irem, 1)) (hne : ¬ y = 0) (k : LXf TT cl X mi fr lo D P PX kc ks (pc + 1) L (.int (x - x / y * y) :: S) h) : LXf TT cl X mi fr lo D P PX kc ks pc L (.int y :: .int x :: S) h := by
  intro π0 π M hR hL hS hA hI
  exact lx_irem d hne (k π0 π M hR hL (mcS_cons.mpr ⟨trivial, (mcS_cons.mp (mcS_cons.mp hS).2).2⟩) hA hI)
theorem lf_ineg {x : Int32} (d : decode mi.2.1 pc = .ok (.ineg, 1)) (k : LXf TT cl X mi fr lo D P PX kc ks (pc + 1) L (.int (-x) :: S) h) : LXf TT cl X mi fr lo D P PX kc ks pc L (.int x :: S) h := by
  intro π0 π M hR hL hS hA hI
  exact lx_ineg d (k π0 π M hR hL (mcS_cons.mpr ⟨trivial, (mcS_cons.mp hS).2⟩) hA hI)
theorem lf_lneg {x : Int64} (d : decode mi.2.1 pc = .ok (.lneg, 1)) (k : LXf TT cl X mi fr lo D P PX kc ks (pc + 1) L (.long (-x) :: S) h) : LXf TT cl X mi fr lo D P PX kc ks pc L (.long x :: S) h := by
  intro π0 π M hR hL hS hA hI
  exact lx_lneg d (k π0 π M hR hL (mcS_cons.mpr ⟨trivial, (mcS_cons.mp hS).2⟩) hA hI)
theorem lf_lcmp {x y : Int64} (d : decode mi.2.1 pc = .ok (.lcmp, 1)) (k : LXf TT cl X mi fr lo D P PX kc ks (pc + 1) L (.int (lg_cmp x y) :: S) h) : LXf TT cl X mi fr lo D P PX kc ks pc L (.long y :: .long x :: S) h := by
  intro π0 π M hR hL hS hA hI
  exact lx_lcmp d (k π0 π M hR hL (mcS_cons.mpr ⟨trivial, (mcS_cons.mp (mcS_cons.mp hS).2).2⟩) hA hI)
theorem lf_i2l {x : Int32} (d : decode mi.2.1 pc = .ok (.i2l, 1)) (k : LXf TT cl X mi fr lo D P PX kc ks (pc + 1) L (.long (x.toInt64) :: S) h) : LXf TT cl X mi fr lo D P PX kc ks pc L (.int x :: S) h := by
  intro π0 π M hR hL hS hA hI
  exact lx_i2l d (k π0 π M hR hL (mcS_cons.mpr ⟨trivial, (mcS_cons.mp hS).2⟩) hA hI)
theorem lf_l2i {x : Int64} (d : decode mi.2.1 pc = .ok (.l2i, 1)) (k : LXf TT cl X mi fr lo D P PX kc ks (pc + 1) L (.int (x.toInt32) :: S) h) : LXf TT cl X mi fr lo D P PX kc ks pc L (.long x :: S) h := by
  intro π0 π M hR hL hS hA hI
  exact lx_l2i d (k π0 π M hR hL (mcS_cons.mpr ⟨trivial, (mcS_cons.mp hS).2⟩) hA hI)
theorem lf_i2b {x : Int32} (d : decode mi.2.1 pc = .ok (.i2b, 1)) (k : LXf TT cl X mi fr lo D P PX kc ks (pc + 1) L (.int (x.toInt8.toInt32) :: S) h) : LXf TT cl X mi fr lo D P PX kc ks pc L (.int x :: S) h := by
  intro π0 π M hR hL hS hA hI
  exact lx_i2b d (k π0 π M hR hL (mcS_cons.mpr ⟨trivial, (mcS_cons.mp hS).2⟩) hA hI)
theorem lf_i2c {x : Int32} (d : decode mi.2.1 pc = .ok (.i2c, 1)) (k : LXf TT cl X mi fr lo D P PX kc ks (pc + 1) L (.int ((x.toUInt32 % 65536).toInt32) :: S) h) : LXf TT cl X mi fr lo D P PX kc ks pc L (.int x :: S) h := by
  intro π0 π M hR hL hS hA hI
  exact lx_i2c d (k π0 π M hR hL (mcS_cons.mpr ⟨trivial, (mcS_cons.mp hS).2⟩) hA hI)
theorem lf_iushr {x y : Int32} (d : decode mi.2.1 pc = .ok (.iushr, 1)) (k : LXf TT cl X mi fr lo D P PX kc ks (pc + 1) L (.int ((x.toUInt32 >>> (y.toUInt32 &&& Int32.toUInt32 31)).toInt32) :: S) h) : LXf TT cl X mi fr lo D P PX kc ks pc L (.int y :: .int x :: S) h := by
  intro π0 π M hR hL hS hA hI
  exact lx_iushr d (k π0 π M hR hL (mcS_cons.mpr ⟨trivial, (mcS_cons.mp (mcS_cons.mp hS).2).2⟩) hA hI)
theorem lf_lushr {x : Int64} {y : Int32} (d : decode mi.2.1 pc = .ok (.lushr, 1)) (k : LXf TT cl X mi fr lo D P PX kc ks (pc + 1) L (.long ((x.toUInt64 >>> (y.toInt64.toUInt64 &&& Int64.toUInt64 63)).toInt64) :: S) h) : LXf TT cl X mi fr lo D P PX kc ks pc L (.int y :: .long x :: S) h := by
  intro π0 π M hR hL hS hA hI
  exact lx_lushr d (k π0 π M hR hL (mcS_cons.mpr ⟨trivial, (mcS_cons.mp (mcS_cons.mp hS).2).2⟩) hA hI)
theorem lf_lshl {x : Int64} {y : Int32} (d : decode mi.2.1 pc = .ok (.lshl, 1)) (k : LXf TT cl X mi fr lo D P PX kc ks (pc + 1) L (.long (x <<< (y.toInt64 &&& 63)) :: S) h) : LXf TT cl X mi fr lo D P PX kc ks pc L (.int y :: .long x :: S) h := by
  intro π0 π M hR hL hS hA hI
  exact lx_lshl d (k π0 π M hR hL (mcS_cons.mpr ⟨trivial, (mcS_cons.mp (mcS_cons.mp hS).2).2⟩) hA hI)
theorem lf_lshr {x : Int64} {y : Int32} (d : decode mi.2.1 pc = .ok (.lshr, 1)) (k : LXf TT cl X mi fr lo D P PX kc ks (pc + 1) L (.long (x >>> (y.toInt64 &&& 63)) :: S) h) : LXf TT cl X mi fr lo D P PX kc ks pc L (.int y :: .long x :: S) h := by
  intro π0 π M hR hL hS hA hI
  exact lx_lshr d (k π0 π M hR hL (mcS_cons.mpr ⟨trivial, (mcS_cons.mp (mcS_cons.mp hS).2).2⟩) hA hI)
theorem lf_dup {v : Value} (d : decode mi.2.1 pc = .ok (.dup, 1)) (hv : v.category = 1) (k : LXf TT cl X mi fr lo D P PX kc ks (pc + 1) L (v :: v :: S) h) : LXf TT cl X mi fr lo D P PX kc ks pc L (v :: S) h := by
  intro π0 π M hR hL hS hA hI
  exact lx_dup d (rnV_cat.trans hv) (k π0 π M hR hL (mcS_cons.mpr ⟨(mcS_cons.mp hS).1, mcS_cons.mpr ⟨(mcS_cons.mp hS).1, (mcS_cons.mp hS).2⟩⟩) hA hI)
theorem lf_pop {v : Value} (d : decode mi.2.1 pc = .ok (.pop, 1)) (hv : v.category = 1) (k : LXf TT cl X mi fr lo D P PX kc ks (pc + 1) L S h) : LXf TT cl X mi fr lo D P PX kc ks pc L (v :: S) h := by
  intro π0 π M hR hL hS hA hI
  exact lx_pop d (rnV_cat.trans hv) (k π0 π M hR hL ((mcS_cons.mp hS).2) hA hI)
theorem lf_dup2 {v u : Value} (d : decode mi.2.1 pc = .ok (.dup2, 1)) (hv : v.category = 1) (hu : u.category = 1) (k : LXf TT cl X mi fr lo D P PX kc ks (pc + 1) L (v :: u :: v :: u :: S) h) : LXf TT cl X mi fr lo D P PX kc ks pc L (v :: u :: S) h := by
  intro π0 π M hR hL hS hA hI
  exact lx_dup2 d (rnV_cat.trans hv) (rnV_cat.trans hu) (k π0 π M hR hL (mcS_cons.mpr ⟨(mcS_cons.mp hS).1, mcS_cons.mpr ⟨(mcS_cons.mp (mcS_cons.mp hS).2).1, mcS_cons.mpr ⟨(mcS_cons.mp hS).1, mcS_cons.mpr ⟨(mcS_cons.mp (mcS_cons.mp hS).2).1, (mcS_cons.mp (mcS_cons.mp hS).2).2⟩⟩⟩⟩) hA hI)
theorem lf_dup_x1 {v u : Value} (d : decode mi.2.1 pc = .ok (.dup_x1, 1)) (hv : v.category = 1) (hu : u.category = 1) (k : LXf TT cl X mi fr lo D P PX kc ks (pc + 1) L (v :: u :: v :: S) h) : LXf TT cl X mi fr lo D P PX kc ks pc L (v :: u :: S) h := by
  intro π0 π M hR hL hS hA hI
  exact lx_dup_x1 d (rnV_cat.trans hv) (rnV_cat.trans hu) (k π0 π M hR hL (mcS_cons.mpr ⟨(mcS_cons.mp hS).1, mcS_cons.mpr ⟨(mcS_cons.mp (mcS_cons.mp hS).2).1, mcS_cons.mpr ⟨(mcS_cons.mp hS).1, (mcS_cons.mp (mcS_cons.mp hS).2).2⟩⟩⟩) hA hI)
theorem lf_if_eq {x : Int32} {off : Int} {tgt : Nat} (d : decode mi.2.1 pc = .ok (.ifCond .eq off, 3)) (ht : (pc : Int) + off = (tgt : Int)) (kt : x = 0 → LXf TT cl X mi fr lo D P PX kc ks tgt L S h) (kf : ¬ (x = 0) → LXf TT cl X mi fr lo D P PX kc ks (pc + 3) L S h) : LXf TT cl X mi fr lo D P PX kc ks pc L (.int x :: S) h := by
  intro π0 π M hR hL hS hA hI
  exact lx_if_eq d ht (fun q => kt q π0 π M hR hL ((mcS_cons.mp hS).2) hA hI) (fun q => kf q π0 π M hR hL ((mcS_cons.mp hS).2) hA hI)
theorem lf_if_ne {x : Int32} {off : Int} {tgt : Nat} (d : decode mi.2.1 pc = .ok (.ifCond .ne off, 3)) (ht : (pc : Int) + off = (tgt : Int)) (kt : ¬ x = 0 → LXf TT cl X mi fr lo D P PX kc ks tgt L S h) (kf : x = 0 → LXf TT cl X mi fr lo D P PX kc ks (pc + 3) L S h) : LXf TT cl X mi fr lo D P PX kc ks pc L (.int x :: S) h := by
  intro π0 π M hR hL hS hA hI
  exact lx_if_ne d ht (fun q => kt q π0 π M hR hL ((mcS_cons.mp hS).2) hA hI) (fun q => kf q π0 π M hR hL ((mcS_cons.mp hS).2) hA hI)
theorem lf_if_lt {x : Int32} {off : Int} {tgt : Nat} (d : decode mi.2.1 pc = .ok (.ifCond .lt off, 3)) (ht : (pc : Int) + off = (tgt : Int)) (kt : x < 0 → LXf TT cl X mi fr lo D P PX kc ks tgt L S h) (kf : ¬ (x < 0) → LXf TT cl X mi fr lo D P PX kc ks (pc + 3) L S h) : LXf TT cl X mi fr lo D P PX kc ks pc L (.int x :: S) h := by
  intro π0 π M hR hL hS hA hI
  exact lx_if_lt d ht (fun q => kt q π0 π M hR hL ((mcS_cons.mp hS).2) hA hI) (fun q => kf q π0 π M hR hL ((mcS_cons.mp hS).2) hA hI)
theorem lf_if_ge {x : Int32} {off : Int} {tgt : Nat} (d : decode mi.2.1 pc = .ok (.ifCond .ge off, 3)) (ht : (pc : Int) + off = (tgt : Int)) (kt : 0 ≤ x → LXf TT cl X mi fr lo D P PX kc ks tgt L S h) (kf : ¬ (0 ≤ x) → LXf TT cl X mi fr lo D P PX kc ks (pc + 3) L S h) : LXf TT cl X mi fr lo D P PX kc ks pc L (.int x :: S) h := by
  intro π0 π M hR hL hS hA hI
  exact lx_if_ge d ht (fun q => kt q π0 π M hR hL ((mcS_cons.mp hS).2) hA hI) (fun q => kf q π0 π M hR hL ((mcS_cons.mp hS).2) hA hI)
theorem lf_if_gt {x : Int32} {off : Int} {tgt : Nat} (d : decode mi.2.1 pc = .ok (.ifCond .gt off, 3)) (ht : (pc : Int) + off = (tgt : Int)) (kt : 0 < x → LXf TT cl X mi fr lo D P PX kc ks tgt L S h) (kf : ¬ (0 < x) → LXf TT cl X mi fr lo D P PX kc ks (pc + 3) L S h) : LXf TT cl X mi fr lo D P PX kc ks pc L (.int x :: S) h := by
  intro π0 π M hR hL hS hA hI
  exact lx_if_gt d ht (fun q => kt q π0 π M hR hL ((mcS_cons.mp hS).2) hA hI) (fun q => kf q π0 π M hR hL ((mcS_cons.mp hS).2) hA hI)
theorem lf_if_le {x : Int32} {off : Int} {tgt : Nat} (d : decode mi.2.1 pc = .ok (.ifCond .le off, 3)) (ht : (pc : Int) + off = (tgt : Int)) (kt : x ≤ 0 → LXf TT cl X mi fr lo D P PX kc ks tgt L S h) (kf : ¬ (x ≤ 0) → LXf TT cl X mi fr lo D P PX kc ks (pc + 3) L S h) : LXf TT cl X mi fr lo D P PX kc ks pc L (.int x :: S) h := by
  intro π0 π M hR hL hS hA hI
  exact lx_if_le d ht (fun q => kt q π0 π M hR hL ((mcS_cons.mp hS).2) hA hI) (fun q => kf q π0 π M hR hL ((mcS_cons.mp hS).2) hA hI)
theorem lf_icmp_eq {x y : Int32} {off : Int} {tgt : Nat} (d : decode mi.2.1 pc = .ok (.if_icmp .eq off, 3)) (ht : (pc : Int) + off = (tgt : Int)) (kt : x = y → LXf TT cl X mi fr lo D P PX kc ks tgt L S h) (kf : ¬ (x = y) → LXf TT cl X mi fr lo D P PX kc ks (pc + 3) L S h) : LXf TT cl X mi fr lo D P PX kc ks pc L (.int y :: .int x :: S) h := by
  intro π0 π M hR hL hS hA hI
  exact lx_icmp_eq d ht (fun q => kt q π0 π M hR hL ((mcS_cons.mp (mcS_cons.mp hS).2).2) hA hI) (fun q => kf q π0 π M hR hL ((mcS_cons.mp (mcS_cons.mp hS).2).2) hA hI)
theorem lf_icmp_ne {x y : Int32} {off : Int} {tgt : Nat} (d : decode mi.2.1 pc = .ok (.if_icmp .ne off, 3)) (ht : (pc : Int) + off = (tgt : Int)) (kt : ¬ x = y → LXf TT cl X mi fr lo D P PX kc ks tgt L S h) (kf : x = y → LXf TT cl X mi fr lo D P PX kc ks (pc + 3) L S h) : LXf TT cl X mi fr lo D P PX kc ks pc L (.int y :: .int x :: S) h := by
  intro π0 π M hR hL hS hA hI
  exact lx_icmp_ne d ht (fun q => kt q π0 π M hR hL ((mcS_cons.mp (mcS_cons.mp hS).2).2) hA hI) (fun q => kf q π0 π M hR hL ((mcS_cons.mp (mcS_cons.mp hS).2).2) hA hI)
theorem lf_icmp_lt {x y : Int32} {off : Int} {tgt : Nat} (d : decode mi.2.1 pc = .ok (.if_icmp .lt off, 3)) (ht : (pc : Int) + off = (tgt : Int)) (kt : x < y → LXf TT cl X mi fr lo D P PX kc ks tgt L S h) (kf : ¬ (x < y) → LXf TT cl X mi fr lo D P PX kc ks (pc + 3) L S h) : LXf TT cl X mi fr lo D P PX kc ks pc L (.int y :: .int x :: S) h := by
  intro π0 π M hR hL hS hA hI
  exact lx_icmp_lt d ht (fun q => kt q π0 π M hR hL ((mcS_cons.mp (mcS_cons.mp hS).2).2) hA hI) (fun q => kf q π0 π M hR hL ((mcS_cons.mp (mcS_cons.mp hS).2).2) hA hI)
theorem lf_icmp_ge {x y : Int32} {off : Int} {tgt : Nat} (d : decode mi.2.1 pc = .ok (.if_icmp .ge off, 3)) (ht : (pc : Int) + off = (tgt : Int)) (kt : y ≤ x → LXf TT cl X mi fr lo D P PX kc ks tgt L S h) (kf : ¬ (y ≤ x) → LXf TT cl X mi fr lo D P PX kc ks (pc + 3) L S h) : LXf TT cl X mi fr lo D P PX kc ks pc L (.int y :: .int x :: S) h := by
  intro π0 π M hR hL hS hA hI
  exact lx_icmp_ge d ht (fun q => kt q π0 π M hR hL ((mcS_cons.mp (mcS_cons.mp hS).2).2) hA hI) (fun q => kf q π0 π M hR hL ((mcS_cons.mp (mcS_cons.mp hS).2).2) hA hI)
theorem lf_icmp_gt {x y : Int32} {off : Int} {tgt : Nat} (d : decode mi.2.1 pc = .ok (.if_icmp .gt off, 3)) (ht : (pc : Int) + off = (tgt : Int)) (kt : y < x → LXf TT cl X mi fr lo D P PX kc ks tgt L S h) (kf : ¬ (y < x) → LXf TT cl X mi fr lo D P PX kc ks (pc + 3) L S h) : LXf TT cl X mi fr lo D P PX kc ks pc L (.int y :: .int x :: S) h := by
  intro π0 π M hR hL hS hA hI
  exact lx_icmp_gt d ht (fun q => kt q π0 π M hR hL ((mcS_cons.mp (mcS_cons.mp hS).2).2) hA hI) (fun q => kf q π0 π M hR hL ((mcS_cons.mp (mcS_cons.mp hS).2).2) hA hI)
theorem lf_icmp_le {x y : Int32} {off : Int} {tgt : Nat} (d : decode mi.2.1 pc = .ok (.if_icmp .le off, 3)) (ht : (pc : Int) + off = (tgt : Int)) (kt : x ≤ y → LXf TT cl X mi fr lo D P PX kc ks tgt L S h) (kf : ¬ (x ≤ y) → LXf TT cl X mi fr lo D P PX kc ks (pc + 3) L S h) : LXf TT cl X mi fr lo D P PX kc ks pc L (.int y :: .int x :: S) h := by
  intro π0 π M hR hL hS hA hI
  exact lx_icmp_le d ht (fun q => kt q π0 π M hR hL ((mcS_cons.mp (mcS_cons.mp hS).2).2) hA hI) (fun q => kf q π0 π M hR hL ((mcS_cons.mp (mcS_cons.mp hS).2).2) hA hI)
theorem lf_goto {off : Int} {tgt : Nat} (d : decode mi.2.1 pc = .ok (.goto off, 3)) (ht : (pc : Int) + off = (tgt : Int)) (k : LXf TT cl X mi fr lo D P PX kc ks tgt L S h) : LXf TT cl X mi fr lo D P PX kc ks pc L S h := by
  intro π0 π M hR hL hS hA hI
  exact lx_goto d ht (k π0 π M hR hL hS hA hI)
theorem lf_ifnull_r {v : Value} {off : Int} (d : decode mi.2.1 pc = .ok (.ifnull off, 3)) (hv : mj_isR v = true) (k : LXf TT cl X mi fr lo D P PX kc ks (pc + 3) L S h) : LXf TT cl X mi fr lo D P PX kc ks pc L (v :: S) h := by
  intro π0 π M hR hL hS hA hI
  exact lx_ifnull_r d (rnV_isR.trans hv) (k π0 π M hR hL ((mcS_cons.mp hS).2) hA hI)
theorem lf_ifnonnull_r {v : Value} {off : Int} {tgt : Nat} (d : decode mi.2.1 pc = .ok (.ifnonnull off, 3)) (ht : (pc : Int) + off = (tgt : Int)) (hv : mj_isR v = true) (k : LXf TT cl X mi fr lo D P PX kc ks tgt L S h) : LXf TT cl X mi fr lo D P PX kc ks pc L (v :: S) h := by
  intro π0 π M hR hL hS hA hI
  exact lx_ifnonnull_r d ht (rnV_isR.trans hv) (k π0 π M hR hL ((mcS_cons.mp hS).2) hA hI)
theorem lf_ifnull_n {off : Int} {tgt : Nat} (d : decode mi.2.1 pc = .ok (.ifnull off, 3)) (ht : (pc : Int) + off = (tgt : Int)) (k : LXf TT cl X mi fr lo D P PX kc ks tgt L S h) : LXf TT cl X mi fr lo D P PX kc ks pc L (.null :: S) h := by
  intro π0 π M hR hL hS hA hI
  exact lx_ifnull_n d ht (k π0 π M hR hL ((mcS_cons.mp hS).2) hA hI)
theorem lf_ifnonnull_n {off : Int} (d : decode mi.2.1 pc = .ok (.ifnonnull off, 3)) (k : LXf TT cl X mi fr lo D P PX kc ks (pc + 3) L S h) : LXf TT cl X mi fr lo D P PX kc ks pc L (.null :: S) h := by
  intro π0 π M hR hL hS hA hI
  exact lx_ifnonnull_n d (k π0 π M hR hL ((mcS_cons.mp hS).2) hA hI)
theorem lf_lookup {dflt : Int} {ps : Array (Int × Int)} {len : Nat} {x : Int32} {off : Int} {tgt : Nat} (d : decode mi.2.1 pc = .ok (.lookupswitch dflt ps, len)) (hp : (ps.toList.zip (ps.toList.drop 1)).all (fun (a, next) => a.1 < next.1) = true) (ho : Op.lookupswitch.offset ps.toList dflt x.toInt = off) (ht : (pc : Int) + off = (tgt : Int)) (k : LXf TT cl X mi fr lo D P PX kc ks tgt L S h) : LXf TT cl X mi fr lo D P PX kc ks pc L (.int x :: S) h := by
  intro π0 π M hR hL hS hA hI
  exact lx_lookup d hp ho ht (k π0 π M hR hL ((mcS_cons.mp hS).2) hA hI)
theorem lf_tableIn {dflt lo9 hi9 : Int} {offs : Array Int} {len : Nat} {x : Int32} {off : Int} {tgt : Nat} (d : decode mi.2.1 pc = .ok (.tableswitch dflt lo9 hi9 offs, len)) (h1 : ¬ x.toInt < lo9) (h2 : ¬ hi9 < x.toInt) (ho : offs[(x.toInt - lo9).toNat]? = some off) (ht : (pc : Int) + off = (tgt : Int)) (k : LXf TT cl X mi fr lo D P PX kc ks tgt L S h) : LXf TT cl X mi fr lo D P PX kc ks pc L (.int x :: S) h := by
  intro π0 π M hR hL hS hA hI
  exact lx_tableIn d h1 h2 ho ht (k π0 π M hR hL ((mcS_cons.mp hS).2) hA hI)
theorem lf_tableOut {dflt lo9 hi9 : Int} {offs : Array Int} {len : Nat} {x : Int32} {tgt : Nat} (d : decode mi.2.1 pc = .ok (.tableswitch dflt lo9 hi9 offs, len)) (h9 : x.toInt < lo9 ∨ hi9 < x.toInt) (ht : (pc : Int) + dflt = (tgt : Int)) (k : LXf TT cl X mi fr lo D P PX kc ks tgt L S h) : LXf TT cl X mi fr lo D P PX kc ks pc L (.int x :: S) h := by
  intro π0 π M hR hL hS hA hI
  exact lx_tableOut d h9 ht (k π0 π M hR hL ((mcS_cons.mp hS).2) hA hI)
theorem lf_ireturn {v : Int32} {ty : FieldType} (d : decode mi.2.1 pc = .ok (.ireturn, 1)) (hr : mi.2.2.2.1 = some ty) (hn : narrow ty (.int v) = .int v) (hp : P (some (.int v)) h) : LXf TT cl X mi fr lo D P PX kc ks pc L [.int v] h := by
  intro π0 π M hR hL hS hA hI
  exact lx_ireturn d hr hn ⟨π, (some (.int v)), h, hp, hR, rfl, hS, hA, hI⟩
theorem lf_lreturn {v : Int64} (d : decode mi.2.1 pc = .ok (.lreturn, 1)) (hr : mi.2.2.2.1 = some .long) (hp : P (some (.long v)) h) : LXf TT cl X mi fr lo D P PX kc ks pc L [.long v] h := by
  intro π0 π M hR hL hS hA hI
  exact lx_lreturn d hr ⟨π, (some (.long v)), h, hp, hR, rfl, hS, hA, hI⟩
theorem lf_freturn {v : UInt32} (d : decode mi.2.1 pc = .ok (.freturn, 1)) (hr : mi.2.2.2.1 = some .float) (hp : P (some (.float v)) h) : LXf TT cl X mi fr lo D P PX kc ks pc L [.float v] h := by
  intro π0 π M hR hL hS hA hI
  exact lx_freturn d hr ⟨π, (some (.float v)), h, hp, hR, rfl, hS, hA, hI⟩
theorem lf_dreturn {v : UInt64} (d : decode mi.2.1 pc = .ok (.dreturn, 1)) (hr : mi.2.2.2.1 = some .double) (hp : P (some (.double v)) h) : LXf TT cl X mi fr lo D P PX kc ks pc L [.double v] h := by
  intro π0 π M hR hL hS hA hI
  exact lx_dreturn d hr ⟨π, (some (.double v)), h, hp, hR, rfl, hS, hA, hI⟩
theorem lf_return (d : decode mi.2.1 pc = .ok (.return_, 1)) (hr : mi.2.2.2.1 = none) (hp : P none h) : LXf TT cl X mi fr lo D P PX kc ks pc L [] h := by
  intro π0 π M hR hL hS hA hI
  exact lx_return d hr ⟨π, none, h, hp, hR, rfl, (fun v hm => by cases hm), hA, hI⟩
theorem lf_areturn {v : Value} {rt9 : FieldType} (d : decode mi.2.1 pc = .ok (.areturn, 1)) (hr : mi.2.2.2.1 = some rt9) (hrt : (∃ n, rt9 = .object n) ∨ ∃ t, rt9 = .array t) (hv : mj_isr v = true) (hp : P (some v) h) : LXf TT cl X mi fr lo D P PX kc ks pc L [v] h := by
  intro π0 π M hR hL hS hA hI
  exact lx_areturn d hr hrt (rnV_isr.trans hv) ⟨π, (some v), h, hp, hR, rfl, hS, hA, hI⟩
end MF2
