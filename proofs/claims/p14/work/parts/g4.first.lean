/-! ===== FRESH: cells that are not 0 at first ===== -/
theorem x92_0 : z_ai y_m58 92 0 = 1 := by decide +kernel
theorem x92_1 : z_ai y_m58 92 1 = 0 := by decide +kernel
theorem x898_32 : z_fi y_m58 898 32 = 1 := by decide +kernel
theorem x898_35 : z_fi y_m58 898 35 = 0 := by decide +kernel
theorem x140_31 : z_fi y_m58 140 31 = 10 := by decide +kernel
theorem x1581_40 : z_fi y_m58 1581 40 = 0 := by decide +kernel
theorem x143_31 : z_fi y_m58 143 31 = 0 := by decide +kernel
theorem x1583_40 : z_fi y_m58 1583 40 = 0 := by decide +kernel
