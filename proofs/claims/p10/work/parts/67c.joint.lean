/-! ===== LIKE on both sides: idle ===== -/
def y_X (n : Nat) (M : z_Mem) : Prop := (z_fi M 135 (n + 31) = 0 ↔ z_fi M 1577 (n + 40) = 0) ∧ rf_ZQ n M
section XX
variable {n w : Nat} {M M1 M2 : z_Mem} {p r : Int32}
theorem y_QT (T : y_RT w n M M1) (Q : rf_ZQ n M) : rf_ZQ n M1 := fun h => by
  have Z := Q ((T.1 1577 (by decide)).symm.trans h)
  exact ⟨h, (T.1 1551 (by decide)).trans Z.2.1, (T.1 1559 (by decide)).trans Z.2.2.1, by rw [T.1 1562 (by decide)]; exact Z.2.2.2⟩
theorem y_K135 (C : rf_KC n M1 M2) : z_fi M2 135 (n + 31) = z_fi M1 135 (n + 31) := C.2.2.2.2.2.2.2.1 135 _ (by decide)
theorem y_Xz (X : y_X n M) (T : y_RT w n M M1) (hw : w ≠ 135) (C : rf_KC n M1 M2) (I : rf_ZI n M1 M2) (Q : rf_ZQ n M2) : y_X n M2 := by
  refine ⟨?_, Q⟩
  rw [y_K135 C]
  unfold rf_ZI at I
  rw [T.1 1577 (by decide)] at I
  exact (T.2.2.2 hw).trans (X.1.trans I.symm)
theorem y_Xf (X : y_X n M) (T : y_RT w n M M1) (hw : w ≠ 135) (C : rf_KC n M1 M2) (F : rf_F4 n M1 M2) : y_X n M2 := y_Xz X T hw C (rf_ZIF F) (rf_ZQF F (y_QT T X.2))
theorem tCO (C : y_oCO n p M M1 r) : y_RT 135 n M M1 := C.elim (fun h => y_T0 h.2.2) (fun C => C.elim (fun h => y_T0 h.2.2.2) (fun h => h.2.2.2.1))
theorem j_CO (X : y_X n M) (C : y_oCO n p M M1 r) (K : rf_KC n M1 M2) (O : rf_oCO n p M1 M2) (Q : rf_ZQ n M2) : y_X n M2 ∧ z_fi M2 1630 (n + 40) = r := by
  rcases C with ⟨c1, c2, T⟩ | ⟨c1, c2, c3, T⟩ | ⟨c1, c2, c3, T, c4⟩
  · rcases O with ⟨o1, o2, o3⟩ | ⟨o1, o2, o3, o4⟩ | ⟨o1, o2, o3, o4⟩
    · exact ⟨y_Xz X T (by decide) K o3 Q, by rw [o2, c2]⟩
    · exact absurd o1 c1
    · exact absurd o1 c1
  · rcases O with ⟨o1, o2, o3⟩ | ⟨o1, o2, o3, o4⟩ | ⟨o1, o2, o3, o4⟩
    · exact absurd c1 o1
    · exact ⟨y_Xz X T (by decide) K o4 Q, by rw [o3, c3]⟩
    · rw [T.1 1577 (by decide)] at o2
      exact absurd (X.1.2 o2) c2
  · rcases O with ⟨o1, o2, o3⟩ | ⟨o1, o2, o3, o4⟩ | ⟨o1, o2, o3, o4⟩
    · exact absurd c1 o1
    · rw [T.1 1577 (by decide)] at o2
      exact absurd (X.1.1 c2) o2
    · refine ⟨⟨?_, Q⟩, by rw [o3, c3]⟩
      rw [y_K135 K]
      exact ⟨fun h => absurd h c4, fun h => absurd h o4⟩
theorem tSU {v : Int32} (C : y_oSU n p v M M1 r) : y_RT 388 n M M1 := C.elim (fun h => y_T0 h.2.2) (fun h => h.2.2.1)
theorem tSW {v : Int32} (C : y_oSW n p v M M1 r) : y_RT 256 n M M1 := C.elim (fun h => y_T0 h.2.2) (fun C => C.elim (fun h => y_T0 h.2.2.2) (fun h => h.2.2.2.1))
theorem tWR {v : Int32} (C : y_oWR n p v M M1 r) : y_RT 1152 n M M1 := C.elim (fun h => y_T0 h.2.2) (fun C => C.elim (fun h => y_T0 h.2.2.2) (fun C => C.elim (fun h => y_T0 h.2.2.2.2) (fun h => h.2.2.2.2.1)))
theorem tTI (C : y_oTI n p M M1 r) : y_RT 645 n M M1 := C.elim (fun h => y_T0 h.2.2) (fun C => C.elim (fun h => y_T0 h.2.2.2) (fun h => h.2.2.2.1))
end XX
