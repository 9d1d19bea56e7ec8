section HP5
variable {TT : List Cond} {cl : List vw_C} {X : XT} {mi ci : MI} {fr lo : Nat} {D : mF} {P : Option Value → mF → Prop} {PX : String → mF → Prop} {kc ks pc : Nat} {L : List (Nat × Value)} {S : List Value} {sh : sM} {I : mI} {J : mJ} {h : mF}
/-- no answer, and nothing changed -/
def EVn (TT : List Cond) (cl : List vw_C) (X : XT) (mi : MI) (lev : Nat) (a : List Value) (sh : sM) (I : mI) (J : mJ) : Prop := EVv TT cl X mi lev a sh I J (fun I1 J1 => I1 = I ∧ J1 = J)
theorem gw_callN {lev lev1 len t n rc : Nat} {a S0 : List Value} (hk : kCall TT cl X mi pc len ci t n rc) (he : EVn TT cl X ci lev1 a sh I J) (hS0 : a.reverse ++ S = S0) (hn : a.length = n) (hrc : gcR sh a t rc) (hlev : lev1 < lev) (hml : ci.2.2.1 ≤ 181) (hst : (S.map fun v => v.category).sum ≤ 8)
    (kk : LXf TT cl X mi (40 + lev) (1000 + 200 * lev) D P PX kc ks (pc + len) L S (hp sh I J)) :
    LXf TT cl X mi (40 + lev) (1000 + 200 * lev) D P PX kc ks pc L S0 (hp sh I J) := by
  refine gw_callV hk he hS0 hn hrc hlev hml hst (fun I1 J1 w => ?_)
  obtain ⟨rfl, rfl⟩ := w
  exact kk
theorem oi_i2c {k : Nat} (hk : k < 65536) : ((Int32.ofInt (k : Int)).toUInt32 % 65536).toInt32 = Int32.ofInt (k : Int) := by
  rw [oi_nat]
  apply Int32.toBitVec_inj.mp
  apply BitVec.eq_of_toNat_eq
  show ((Int32.ofNat k).toUInt32 % 65536).toNat = (BitVec.ofNat 32 k).toNat
  rw [UInt32.toNat_mod]
  show (BitVec.ofNat 32 k).toNat % 65536 = (BitVec.ofNat 32 k).toNat
  rw [BitVec.toNat_ofNat, Nat.mod_eq_of_lt (a := k) (by omega), Nat.mod_eq_of_lt hk]
theorem gi_topX {a : Int32} {b : Int} (e : a = Int32.ofInt b) (k : LXf TT cl X mi fr lo D P PX kc ks pc L (.int (Int32.ofInt b) :: S) h) : LXf TT cl X mi fr lo D P PX kc ks pc L (.int a :: S) h := by rw [e]; exact k
end HP5
