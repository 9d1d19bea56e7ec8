section LA11
variable {X : XT} {L9 : Nat} {xs : Nat → Int32} {sh : sM} {I : mI} {J : mJ}

variable {D : mF} {P : Option Value → mF → Prop} {PX : String → mF → Prop} {kc ks : Nat}

theorem law_all (hx : HX X L9 xs) (hxc : HXC X) (h0 : ∀ a, sh a = none) : LXf TT cl6 X mi_W_law (40 + 11) (1000 + 200 * 11) D (pst PL) PX 2698 62705 0 [(0, .retAddr 1)] [] (hp sh I J) := by
  refine lf_room (kc1 := 2672 + 26) (ks1 := 61999 + 706) (by decide) (by decide) ?_
  refine law_a hx h0 (fun s1 I1 J1 hM hN hfr hz => ?_)
  refine lf_room (kc1 := 2472 + 200) (ks1 := 54999 + 7000) (by decide) (by decide) ?_
  refine law_b hx hxc hM hN hfr hz (fun s2 I2 J2 N ni c s no w kd ow r2 r3 dt ot hL i13 i15 i17 f128 => ?_)
  have hin : INq I2 J2 s w := ⟨i13, i15, i17⟩
  refine lf_room (kc1 := 2471 + 1) (ks1 := 54976 + 23) (by decide) (by decide) ?_
  refine law_c hx hL f128 (fun b s3 I3 J3 hb hsm h128 f129 hcl3 => ?_)
  have hL3 := LAW_S hsm hL
  have hin3 := IN_S hsm hin
  refine lf_room (kc1 := 2271 + 200) (ks1 := 50976 + 4000) (by decide) (by decide) ?_
  refine law_d hx hL3 hin3 h128 f129 hb (fun s4 I4 J4 hvb => ?_)
  have hsm4 : SMq s4 I4 J4 s3 I3 J3 := fun a ha => hvb.2.1 a (by omega)
  have hL4 := LAW_S hsm4 hL3
  have hin4 := IN_S hsm4 hin3
  have h1284 := (hvb.2.1 128 (by decide)).1.trans h128
  have hh4 : ∀ j, j < N → I4 128 j = ((bn (hcl N s ni kd r2 r3 j) : Nat) : Int) := fun j hj => by
    rw [(hvb.2.1 128 (by decide)).2.1]
    exact hcl3 j hj
  refine lf_room (kc1 := 2268 + 3) (ks1 := 50958 + 18) (by decide) (by decide) ?_
  refine law_e hx hL4 hin4 h1284 hh4 hvb.1 hb (fun ib bar I5 J5 hbar hst5 h5 => ?_)
  refine lf_room (kc1 := 2068 + 200) (ks1 := 49958 + 1000) (by decide) (by decide) ?_
  refine law_f hx hb hbar hst5 (fun a h1 h2 => hvb.2.2 a h1 (Or.inl h2)) h5.1 (fun s6 I6 J6 hst6 h130 f131 k130 e24 => ?_)
  refine lf_room (kc1 := 20 + 2048) (ks1 := 1958 + 48000) (by decide) (by decide) ?_
  refine law_g hx hb hbar hst6 (f131 150 (by decide) (by decide)) (fun I7 g7 => ?_)
  have hst7 := ST_17 g7 hst6
  refine lf_room (kc1 := 18 + 2) (ks1 := 1702 + 256) (by decide) (by decide) ?_
  refine law_h hx hst7 f131 (fun s8 I8 J8 a8 h131 h132 f133 n8 => ?_)
  have hst8 := ST_N a8 hst7
  refine lf_room (kc1 := 14 + 4) (ks1 := 1182 + 520) (by decide) (by decide) ?_
  refine law_i hx hst8 f133 (fun s9 I9 J9 a9 h133 h134 h135 h136 f137 z9 m9 => ?_)
  have hst9 := ST_N (fun a ha => a9 a (by omega)) hst8
  have h1309 := (a9 130 (by decide)).1.trans ((a8 130 (by decide)).1.trans h130)
  have h1319 := (a9 131 (by decide)).1.trans h131
  have h1329 := (a9 132 (by decide)).1.trans h132
  have hkv9 : ∀ j, j < 2 ^ s → I9 130 j = ((bn (kpt N s kd r2 r3 bar j) : Nat) : Int) := fun j hj => by
    rw [(a9 130 (by decide)).2.1, (a8 130 (by decide)).2.1]
    exact (g7 130 j (by omega)).trans (k130 j hj)
  obtain ⟨-, j2, j3, -⟩ := JEQ (a9 15 (by decide)).2.2 (a9 26 (by decide)).2.2 w s ni no dt ot
  have hnv9 : ∀ j, j < 2 ^ s → I9 131 j = ((nxt J9 w s ni dt j : Nat) : Int) ∧ I9 132 j = ((bn (unl2 J9 w s ot no j) : Nat) : Int) := fun j hj => by
    rw [(a9 131 (by decide)).2.1, (a9 132 (by decide)).2.1, j2, j3]
    exact n8 j hj
  have e249 : ∀ q, I9 24 q = I5 24 q := fun q => by
    rw [(a9 24 (by decide)).2.1, (a8 24 (by decide)).2.1]
    exact (g7 24 q (by omega)).trans (congrFun e24 q)
  refine law_j hx hst9 h1319 h1329 h133 h134 h135 h136 h1309 hkv9 hnv9 z9 m9 (fun I10 fr10 hlb => ?_)
  have hst10 : STq s9 I10 J9 N ni c s no w kd ow r2 r3 dt ot bar := ST_N (fun a ha => ⟨rfl, fr10 a (by omega) (by omega) (by omega) (by omega), rfl⟩) hst9
  have e2410 : ∀ q, I10 24 q = I5 24 q := fun q => (congrFun (fr10 24 (by decide) (by decide) (by decide) (by decide)) q).trans (e249 q)
  refine lf_room (kc1 := 12 + 2) (ks1 := 1170 + 12) (by decide) (by decide) ?_
  refine law_k hx hst10 h134 h135 h136 rfl hlb ((e2410 12).trans h5.2.1) ((e2410 13).trans h5.2.2) (fun len I11 hlen hst11 hsr hsd hda k11 _ => ?_)
  have hfin : FINq s9 I11 J9 N ni c s no w kd ow r2 r3 dt ot bar len := by
    refine ⟨hst11, hsr, ⟨hsd, hda, hlen⟩, ⟨h1309, h1319, h1329⟩, fun j hj => ?_, fun j hj => ?_⟩
    · rw [k11 130 (by decide), fr10 130 (by decide) (by decide) (by decide) (by decide)]
      exact hkv9 j hj
    · rw [k11 131 (by decide), k11 132 (by decide), fr10 131 (by decide) (by decide) (by decide) (by decide), fr10 132 (by decide) (by decide) (by decide) (by decide)]
      exact hnv9 j hj
  refine lf_room (kc1 := 8 + 4) (ks1 := 658 + 512) (by decide) (by decide) ?_
  refine law_l hx hfin f137 (fun s12 I12 J12 b1 b2 b3 => ?_)
  have hfin12 := FIN_K b1 b2 hfin
  refine lf_room (kc1 := 3 + 5) (ks1 := 18 + 640) (by decide) (by decide) ?_
  refine law_m hx hfin12 b3 (fun s13 I13 J13 hfin13 => ?_)
  refine lf_room (kc1 := 0 + 3) (ks1 := 0 + 18) (by decide) (by decide) ?_
  exact law_n hx hfin13
end LA11
