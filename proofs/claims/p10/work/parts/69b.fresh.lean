/-! ===== FRESH: what is alike at first ===== -/
theorem x135_31 : z_fi y_m58 135 31 = 0 := by decide +kernel
theorem x1577_40 : z_fi y_m58 1577 40 = 0 := by decide +kernel
theorem x1551_40 : z_fi y_m58 1551 40 = 0 := by decide +kernel
theorem x1559_40 : z_fi y_m58 1559 40 = 0 := by decide +kernel
theorem x1562_40 : z_fi y_m58 1562 40 = 0 := by decide +kernel
theorem y_VX0 {n : Nat} {M : z_Mem} (h : y_B n M y_m58 601024 108 7293034 89908 108) : y_VX n 512 M := by
  refine ⟨y_V0 h, ?_⟩
  obtain ⟨⟨⟨-, lf, lr⟩, h2, h3, h4, h5, h6, h7, h8, h9, h10⟩, r1, r2, -⟩ := h
  have fi : ∀ g a v, z_fi y_m58 g a = v → z_fi M g (n + a) = v := fun g a v e => by rw [h3, e]
  refine ⟨?_, fun _ => ⟨fi _ _ _ x1577_40, fi _ _ _ x1551_40, fi _ _ _ x1559_40, ?_⟩⟩
  · rw [fi _ _ _ x135_31, fi _ _ _ x1577_40]
  · rw [fi _ _ _ x1562_40]; decide
