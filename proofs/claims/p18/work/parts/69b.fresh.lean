/-! ===== FRESH: what is alike at first ===== -/
theorem x388_2 : z_fi y_m58 388 2 = 1 := by decide +kernel
theorem x388_4 : z_fi y_m58 388 4 = 1 := by decide +kernel
theorem x45_0 : z_ai y_m58 45 0 = 0 := by decide +kernel
theorem x45_1 : z_ai y_m58 45 1 = 0 := by decide +kernel
theorem x1027_28 : z_fi y_m58 1027 28 = 0 := by decide +kernel
theorem x1563_40 : z_fi y_m58 1563 40 = 0 := by decide +kernel
theorem x256_33 : z_fi y_m58 256 33 = 0 := by decide +kernel
theorem x256_36 : z_fi y_m58 256 36 = 0 := by decide +kernel
theorem x86_0 : z_ai y_m58 86 0 = 0 := by decide +kernel
theorem x86_1 : z_ai y_m58 86 1 = 0 := by decide +kernel
theorem x1152 : ∀ j : Nat, j < 4 → z_fi y_m58 1152 (12 + 4 * j) = 0 := by decide +kernel
theorem x66 : ∀ j : Nat, j < 4 → z_ai y_m58 66 j = 0 := by decide +kernel
theorem x645_1 : z_fi y_m58 645 1 = 0 := by decide +kernel
theorem x1536_40 : z_fi y_m58 1536 40 = 0 := by decide +kernel
theorem y_VX0 {n : Nat} {M : z_Mem} (h : y_B n M y_m58 601024 108 7293034 89908 108) : y_VX n 512 M := by
  refine ⟨y_V0 h, ?_⟩
  obtain ⟨⟨⟨-, lf, lr⟩, h2, h3, h4, h5, h6, h7, h8, h9, h10⟩, r1, r2, -⟩ := h
  have fi : ∀ g a v, z_fi y_m58 g a = v → z_fi M g (n + a) = v := fun g a v e => by rw [h3, e]
  have ai : ∀ x j v, z_ai y_m58 x j = v → z_ai M (n + x) j = v := fun x j v e => by rw [h5, e]
  refine ⟨?_, ?_, ?_, ?_, ?_, fun j hj => ?_, ?_⟩
  · rw [fi _ _ _ x388_2, ai _ _ _ x45_0]; decide
  · rw [fi _ _ _ x388_4, ai _ _ _ x45_1]; decide
  · rw [fi _ _ _ x1027_28, fi _ _ _ x1563_40]
  · rw [fi _ _ _ x256_33, ai _ _ _ x86_0]
  · rw [fi _ _ _ x256_36, ai _ _ _ x86_1]
  · rw [fi _ _ _ (x1152 j hj), ai _ _ _ (x66 j hj)]
  · rw [fi _ _ _ x645_1, fi _ _ _ x1536_40]
