theorem me_k158 : me_k 158 = (0, 241, 0, 0) := by decide +kernel
