section RN2
theorem run_29 : srun 12000 12 (29, 29, []) (6, 6, []) = true := by decide +kernel
end RN2
