/-! ===== THE CLASS: paths that are checked stay so; which are used stays ===== -/
section MR
variable {n : Nat} {u : Int32} {b : Prop} {M M1 : z_Mem}
def mRc (n : Nat) (u : Int32) (b : Prop) (M : z_Mem) : Prop := n + 108 ≤ z_sz M ∧ ¬ z_fi M 898 (n + 32) = 0 ∧ (b → ¬ z_fi M 898 (n + 35) = 0) ∧ z_fi M 143 (n + 31) = u
theorem mRc_W : y_mR (mRc n u b) := by
  refine ⟨fun M g a v hg h => ?_, fun M a h => ?_, fun M k w h => ?_, fun M k w h => ⟨Nat.le_succ_of_le h.1, h.2⟩, fun M a j v h => h, fun M a j v h => h, fun M g a v h => h, fun M a f h => h⟩
  · obtain ⟨h1, h2, h3, h4⟩ := h
    refine ⟨h1, ?_, fun hb => ?_, ?_⟩
    · rw [zq_fi_sfi, if_neg (Ne.symm hg.1)]; exact h2
    · rw [zq_fi_sfi, if_neg (Ne.symm hg.1)]; exact h3 hb
    · rw [zq_fi_sfi, if_neg (Ne.symm hg.2)]; exact h4
  · obtain ⟨h1, h2, h3, h4⟩ := h
    refine ⟨h1, ?_, fun hb => ?_, ?_⟩
    · rw [zq_fi_sfi, if_pos rfl]
      split
      · decide
      · exact h2
    · rw [zq_fi_sfi, if_pos rfl]
      split
      · decide
      · exact h3 hb
    · rw [zq_fi_sfi, if_neg (by decide)]; exact h4
  · obtain ⟨h1, h2, h3, h4⟩ := h
    refine ⟨Nat.le_succ_of_le h1, ?_, fun hb => ?_, ?_⟩
    · rw [zq_fi_new, if_neg (by omega)]; exact h2
    · rw [zq_fi_new, if_neg (by omega)]; exact h3 hb
    · rw [zq_fi_new, if_neg (by omega)]; exact h4
end MR
