section T
theorem t_short : srun 300 12 (0, 63, []) (0, 5, []) = true := by decide +kernel
theorem t_0 : srun 400 12 (0, 0, []) (6, 6, []) = true := by decide +kernel
theorem t_1 : srun 400 12 (1, 1, []) (6, 6, []) = true := by decide +kernel
theorem t_2 : srun 400 12 (2, 2, []) (6, 6, []) = true := by decide +kernel
theorem t_44 : srun 400 12 (44, 44, []) (6, 6, []) = true := by decide +kernel
end T
