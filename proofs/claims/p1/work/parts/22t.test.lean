section T
noncomputable def srunG (n d : Nat) (G : sG) : Bool := match fx rowM n d 94 G 0 [(0, .inl (.retAddr 1))] [] [] with
  | some r => r.1.all sret1 && Nat.ble r.2.1 600006 && Nat.ble r.2.2 7302064
  | none => false
def sGk (k : Int) : sG := [sIv, (k, k, []), sIv, sIv, sIv, sIv, (0, 65535, []), (29, 29, []), (6, 6, []), sIv, sIv, sIv, sIv, sIv, sIv, sIv]
theorem t_293 : srunG 12000 12 (sGk 3) = true := by decide +kernel
theorem t_294 : srunG 12000 12 (sGk 4) = true := by decide +kernel
end T
