section LF1
theorem lfT_0 : chkLT (3, 0x80002000080002000080002100080002, kS_0) = true := by decide +kernel
theorem lfT_1 : chkLT (3, 0x80001000100002000080001100100002, kS_1) = true := by decide +kernel
theorem lfT_2 : chkLT (3, 0x80001000020000400400008100100002, kS_2) = true := by decide +kernel
theorem lfT_3 : chkLT (3, 0x80000400080000400400002100400002, kS_3) = true := by decide +kernel
theorem lfT_4 : chkLT (3, 0x80000400100000800200001100400002, kS_4) = true := by decide +kernel
theorem lfT_5 : chkLT (3, 0x80002000020000800200008100080002, kS_5) = true := by decide +kernel
theorem lfT_6 : chkLT (4, 0x80002000080002000080002000080002000080002000080002000080002100080002, kS_6) = true := by decide +kernel
theorem lfT_7 : chkLT (4, 0x80001000100002000080001000100002000080001000100002000080001100100002, kS_7) = true := by decide +kernel
theorem lfT_8 : chkLT (4, 0x80001000020000400400008000100002000080001000020000400400008100100002, kS_8) = true := by decide +kernel
theorem lfT_9 : chkLT (4, 0x80000400080000400400002000400002000080000400080000400400002100400002, kS_9) = true := by decide +kernel
theorem lfT_10 : chkLT (4, 0x80000400100000800200001000400002000080000400100000800200001100400002, kS_10) = true := by decide +kernel
theorem lfT_11 : chkLT (4, 0x80002000020000800200008000080002000080002000020000800200008100080002, kS_11) = true := by decide +kernel
theorem lfT_12 : chkLT (4, 0x80001000020000400008000100002000044000080001000020000400008100100002, kS_12) = true := by decide +kernel
theorem lfT_13 : chkLT (4, 0x80000400080000400008000040008000044000020004000020000400002100400002, kS_13) = true := by decide +kernel
theorem lfT_14 : chkLT (4, 0x80000400002000010200001000008000044000020000100000810000080100400002, kS_14) = true := by decide +kernel
theorem lfT_15 : chkLT (4, 0x80000040020000010200000100080000044000002001000000810000008104000002, kS_15) = true := by decide +kernel
theorem lfT_16 : chkLT (4, 0x80000040080000040080000040080000044000002004000002004000002104000002, kS_16) = true := by decide +kernel
theorem lfT_17 : chkLT (4, 0x80001000002000040080001000002000044000080000100002004000080100100002, kS_17) = true := by decide +kernel
theorem lfT_18 : chkLT (4, 0x80000400002000010400002000010000082000010000080000410000080100400002, kS_18) = true := by decide +kernel
theorem lfT_19 : chkLT (4, 0x80000040020000010400000200100000082000001000800000410000008104000002, kS_19) = true := by decide +kernel
theorem lfT_20 : chkLT (4, 0x80000040100000080080000040100000082000001004000002002000001104000002, kS_20) = true := by decide +kernel
theorem lfT_21 : chkLT (4, 0x80002000002000080080002000002000082000080000080002002000080100080002, kS_21) = true := by decide +kernel
theorem lfT_22 : chkLT (4, 0x80002000020000800008000200002000082000080000800020000200008100080002, kS_22) = true := by decide +kernel
theorem lfT_23 : chkLT (4, 0x80000400100000800008000040010000082000010004000020000200001100400002, kS_23) = true := by decide +kernel
theorem lfT_24 : chkLT (4, 0x80000040100000080200000100400000200800000401000000802000001104000002, kS_24) = true := by decide +kernel
theorem lfT_25 : chkLT (4, 0x80002000002000080200008000008000200800020000020000802000080100080002, kS_25) = true := by decide +kernel
theorem lfT_26 : chkLT (4, 0x80002000080002000008000200008000200800020000800020000080002100080002, kS_26) = true := by decide +kernel
theorem lfT_27 : chkLT (4, 0x80001000100002000008000100010000200800010001000020000080001100100002, kS_27) = true := by decide +kernel
theorem lfT_28 : chkLT (4, 0x80001000002000040400008000010000200800010000020000404000080100100002, kS_28) = true := by decide +kernel
theorem lfT_29 : chkLT (4, 0x80000040080000040400000200400000200800000400800000404000002104000002, kS_29) = true := by decide +kernel
theorem lfN_0 : chkNO (3, 7, 36, kS_0) = true := by decide +kernel
theorem lfN_1 : chkNO (3, 7, 24, kS_5) = true := by decide +kernel
theorem lfN_2 : chkNO (3, 7, 33, kS_1) = true := by decide +kernel
theorem lfN_3 : chkNO (3, 7, 9, kS_2) = true := by decide +kernel
theorem lfN_4 : chkNO (3, 7, 18, kS_4) = true := by decide +kernel
theorem lfN_5 : chkNO (3, 7, 6, kS_3) = true := by decide +kernel
theorem lfN_6 : chkNO (4, 15, 228, kS_6) = true := by decide +kernel
theorem lfN_7 : chkNO (4, 15, 180, kS_26) = true := by decide +kernel
theorem lfN_8 : chkNO (4, 15, 216, kS_11) = true := by decide +kernel
theorem lfN_9 : chkNO (4, 15, 120, kS_22) = true := by decide +kernel
theorem lfN_10 : chkNO (4, 15, 156, kS_25) = true := by decide +kernel
theorem lfN_11 : chkNO (4, 15, 108, kS_21) = true := by decide +kernel
theorem lfN_12 : chkNO (4, 15, 225, kS_7) = true := by decide +kernel
theorem lfN_13 : chkNO (4, 15, 177, kS_27) = true := by decide +kernel
theorem lfN_14 : chkNO (4, 15, 201, kS_8) = true := by decide +kernel
theorem lfN_15 : chkNO (4, 15, 57, kS_12) = true := by decide +kernel
theorem lfN_16 : chkNO (4, 15, 141, kS_28) = true := by decide +kernel
theorem lfN_17 : chkNO (4, 15, 45, kS_17) = true := by decide +kernel
theorem lfN_18 : chkNO (4, 15, 210, kS_10) = true := by decide +kernel
theorem lfN_19 : chkNO (4, 15, 114, kS_23) = true := by decide +kernel
theorem lfN_20 : chkNO (4, 15, 198, kS_9) = true := by decide +kernel
theorem lfN_21 : chkNO (4, 15, 54, kS_13) = true := by decide +kernel
theorem lfN_22 : chkNO (4, 15, 78, kS_18) = true := by decide +kernel
theorem lfN_23 : chkNO (4, 15, 30, kS_14) = true := by decide +kernel
theorem lfN_24 : chkNO (4, 15, 147, kS_24) = true := by decide +kernel
theorem lfN_25 : chkNO (4, 15, 99, kS_20) = true := by decide +kernel
theorem lfN_26 : chkNO (4, 15, 135, kS_29) = true := by decide +kernel
theorem lfN_27 : chkNO (4, 15, 39, kS_16) = true := by decide +kernel
theorem lfN_28 : chkNO (4, 15, 75, kS_19) = true := by decide +kernel
theorem lfN_29 : chkNO (4, 15, 27, kS_15) = true := by decide +kernel
theorem ltL_ok : ∀ q ∈ ltL, chkLT q = true := (List.forall_mem_cons.mpr ⟨lfT_0, (List.forall_mem_cons.mpr ⟨lfT_1, (List.forall_mem_cons.mpr ⟨lfT_2, (List.forall_mem_cons.mpr ⟨lfT_3, (List.forall_mem_cons.mpr ⟨lfT_4, (List.forall_mem_cons.mpr ⟨lfT_5, (List.forall_mem_cons.mpr ⟨lfT_6, (List.forall_mem_cons.mpr ⟨lfT_7, (List.forall_mem_cons.mpr ⟨lfT_8, (List.forall_mem_cons.mpr ⟨lfT_9, (List.forall_mem_cons.mpr ⟨lfT_10, (List.forall_mem_cons.mpr ⟨lfT_11, (List.forall_mem_cons.mpr ⟨lfT_12, (List.forall_mem_cons.mpr ⟨lfT_13, (List.forall_mem_cons.mpr ⟨lfT_14, (List.forall_mem_cons.mpr ⟨lfT_15, (List.forall_mem_cons.mpr ⟨lfT_16, (List.forall_mem_cons.mpr ⟨lfT_17, (List.forall_mem_cons.mpr ⟨lfT_18, (List.forall_mem_cons.mpr ⟨lfT_19, (List.forall_mem_cons.mpr ⟨lfT_20, (List.forall_mem_cons.mpr ⟨lfT_21, (List.forall_mem_cons.mpr ⟨lfT_22, (List.forall_mem_cons.mpr ⟨lfT_23, (List.forall_mem_cons.mpr ⟨lfT_24, (List.forall_mem_cons.mpr ⟨lfT_25, (List.forall_mem_cons.mpr ⟨lfT_26, (List.forall_mem_cons.mpr ⟨lfT_27, (List.forall_mem_cons.mpr ⟨lfT_28, (List.forall_mem_cons.mpr ⟨lfT_29, (fun _ h => absurd h List.not_mem_nil)⟩)⟩)⟩)⟩)⟩)⟩)⟩)⟩)⟩)⟩)⟩)⟩)⟩)⟩)⟩)⟩)⟩)⟩)⟩)⟩)⟩)⟩)⟩)⟩)⟩)⟩)⟩)⟩)⟩)⟩)
theorem noL_ok : ∀ q ∈ noL, chkNO q = true ∧ (Int32.ofNat q.1).toNatClampNeg = q.1 := (List.forall_mem_cons.mpr ⟨⟨lfN_0, rfl⟩, (List.forall_mem_cons.mpr ⟨⟨lfN_1, rfl⟩, (List.forall_mem_cons.mpr ⟨⟨lfN_2, rfl⟩, (List.forall_mem_cons.mpr ⟨⟨lfN_3, rfl⟩, (List.forall_mem_cons.mpr ⟨⟨lfN_4, rfl⟩, (List.forall_mem_cons.mpr ⟨⟨lfN_5, rfl⟩, (List.forall_mem_cons.mpr ⟨⟨lfN_6, rfl⟩, (List.forall_mem_cons.mpr ⟨⟨lfN_7, rfl⟩, (List.forall_mem_cons.mpr ⟨⟨lfN_8, rfl⟩, (List.forall_mem_cons.mpr ⟨⟨lfN_9, rfl⟩, (List.forall_mem_cons.mpr ⟨⟨lfN_10, rfl⟩, (List.forall_mem_cons.mpr ⟨⟨lfN_11, rfl⟩, (List.forall_mem_cons.mpr ⟨⟨lfN_12, rfl⟩, (List.forall_mem_cons.mpr ⟨⟨lfN_13, rfl⟩, (List.forall_mem_cons.mpr ⟨⟨lfN_14, rfl⟩, (List.forall_mem_cons.mpr ⟨⟨lfN_15, rfl⟩, (List.forall_mem_cons.mpr ⟨⟨lfN_16, rfl⟩, (List.forall_mem_cons.mpr ⟨⟨lfN_17, rfl⟩, (List.forall_mem_cons.mpr ⟨⟨lfN_18, rfl⟩, (List.forall_mem_cons.mpr ⟨⟨lfN_19, rfl⟩, (List.forall_mem_cons.mpr ⟨⟨lfN_20, rfl⟩, (List.forall_mem_cons.mpr ⟨⟨lfN_21, rfl⟩, (List.forall_mem_cons.mpr ⟨⟨lfN_22, rfl⟩, (List.forall_mem_cons.mpr ⟨⟨lfN_23, rfl⟩, (List.forall_mem_cons.mpr ⟨⟨lfN_24, rfl⟩, (List.forall_mem_cons.mpr ⟨⟨lfN_25, rfl⟩, (List.forall_mem_cons.mpr ⟨⟨lfN_26, rfl⟩, (List.forall_mem_cons.mpr ⟨⟨lfN_27, rfl⟩, (List.forall_mem_cons.mpr ⟨⟨lfN_28, rfl⟩, (List.forall_mem_cons.mpr ⟨⟨lfN_29, rfl⟩, (fun _ h => absurd h List.not_mem_nil)⟩)⟩)⟩)⟩)⟩)⟩)⟩)⟩)⟩)⟩)⟩)⟩)⟩)⟩)⟩)⟩)⟩)⟩)⟩)⟩)⟩)⟩)⟩)⟩)⟩)⟩)⟩)⟩)⟩)⟩)
variable {X : XT} {ρ : Nat → Int32} {t9 : Nat}
theorem hktx_63 (h : HX X ρ t9) : runOK TT cl6 X mis en ρ 63 hkt_63 := hkt_ok_63 h ltL_ok
theorem hktx_158 (h : HX X ρ t9) : runOK TT cl6 X mis en ρ 158 hkt_158 := hkt_ok_158 h noL_ok
end LF1
