/-! ===== p1: one call on a fresh object ===== -/
theorem vp_eq {i : Int32} {n : Nat} : vp_in i n = (¬ i < 0 ∧ i.toNatClampNeg < n) := propext ⟨fun h => ⟨fun q => h (Or.inl q), Nat.not_le.mp fun q => h (Or.inr q)⟩, fun h q => q.elim h.1 (Nat.not_le.mpr h.2)⟩
theorem y_rmB {n b r1 k1 r2 k2 w : Nat} {M C : z_Mem} (h : y_B n M C r1 k1 r2 k2 b) (h1 : Nat.ble (k1 + 1) r1 = true) (h2 : Nat.ble (k2 + w) r2 = true) : z_room M w = True := propext ⟨fun _ => trivial, fun _ => y_rm h h1 h2⟩
theorem ib1 {p : Int32} (h0 : ¬ p = 0) (h1 : ¬ p = 1) : (p < 0) = (¬ 1 < p) := by
  rw [Int32.lt_iff_toInt_lt, Int32.lt_iff_toInt_lt]
  rw [← Int32.toInt_inj] at h0 h1
  have e0 : (0 : Int32).toInt = 0 := rfl
  have e1 : (1 : Int32).toInt = 1 := rfl
  apply propext; omega
theorem ib2 {p : Int32} (h0 : ¬ p = 0) (h1 : ¬ p = 1) (h2 : ¬ p = 2) : (p < 0) = (¬ 2 < p) := by
  rw [Int32.lt_iff_toInt_lt, Int32.lt_iff_toInt_lt]
  rw [← Int32.toInt_inj] at h0 h1 h2
  have e0 : (0 : Int32).toInt = 0 := rfl
  have e1 : (1 : Int32).toInt = 1 := rfl
  have e2 : (2 : Int32).toInt = 2 := rfl
  apply propext; omega
theorem ib3 {p : Int32} (h0 : ¬ p = 0) (h1 : ¬ p = 1) (h2 : ¬ p = 2) (h3 : ¬ p = 3) : (p < 0) = (¬ 3 < p) := by
  rw [Int32.lt_iff_toInt_lt, Int32.lt_iff_toInt_lt]
  rw [← Int32.toInt_inj] at h0 h1 h2 h3
  have e0 : (0 : Int32).toInt = 0 := rfl
  have e1 : (1 : Int32).toInt = 1 := rfl
  have e2 : (2 : Int32).toInt = 2 := rfl
  have e3 : (3 : Int32).toInt = 3 := rfl
  apply propext; omega
theorem ib4 {p : Int32} (h0 : ¬ p = 0) (h1 : ¬ p = 1) (h2 : ¬ p = 2) (h3 : ¬ p = 3) (h4 : ¬ p = 4) : (p < 0) = (¬ 4 < p) := by
  rw [Int32.lt_iff_toInt_lt, Int32.lt_iff_toInt_lt]
  rw [← Int32.toInt_inj] at h0 h1 h2 h3 h4
  have e0 : (0 : Int32).toInt = 0 := rfl
  have e1 : (1 : Int32).toInt = 1 := rfl
  have e2 : (2 : Int32).toInt = 2 := rfl
  have e3 : (3 : Int32).toInt = 3 := rfl
  have e4 : (4 : Int32).toInt = 4 := rfl
  apply propext; omega
theorem ib5 {p : Int32} (h0 : ¬ p = 0) (h1 : ¬ p = 1) (h2 : ¬ p = 2) (h3 : ¬ p = 3) (h4 : ¬ p = 4) (h5 : ¬ p = 5) : (p < 0) = (¬ 5 < p) := by
  rw [Int32.lt_iff_toInt_lt, Int32.lt_iff_toInt_lt]
  rw [← Int32.toInt_inj] at h0 h1 h2 h3 h4 h5
  have e0 : (0 : Int32).toInt = 0 := rfl
  have e1 : (1 : Int32).toInt = 1 := rfl
  have e2 : (2 : Int32).toInt = 2 := rfl
  have e3 : (3 : Int32).toInt = 3 := rfl
  have e4 : (4 : Int32).toInt = 4 := rfl
  have e5 : (5 : Int32).toInt = 5 := rfl
  apply propext; omega
theorem ib6 {p : Int32} (h0 : ¬ p = 0) (h1 : ¬ p = 1) (h2 : ¬ p = 2) (h3 : ¬ p = 3) (h4 : ¬ p = 4) (h5 : ¬ p = 5) (h6 : ¬ p = 6) : (p < 0) = (¬ 6 < p) := by
  rw [Int32.lt_iff_toInt_lt, Int32.lt_iff_toInt_lt]
  rw [← Int32.toInt_inj] at h0 h1 h2 h3 h4 h5 h6
  have e0 : (0 : Int32).toInt = 0 := rfl
  have e1 : (1 : Int32).toInt = 1 := rfl
  have e2 : (2 : Int32).toInt = 2 := rfl
  have e3 : (3 : Int32).toInt = 3 := rfl
  have e4 : (4 : Int32).toInt = 4 := rfl
  have e5 : (5 : Int32).toInt = 5 := rfl
  have e6 : (6 : Int32).toInt = 6 := rfl
  apply propext; omega
theorem ib8 {p : Int32} (h0 : ¬ p = 0) (h1 : ¬ p = 1) (h2 : ¬ p = 2) (h3 : ¬ p = 3) (h4 : ¬ p = 4) (h5 : ¬ p = 5) (h6 : ¬ p = 6) (h7 : ¬ p = 7) (h8 : ¬ p = 8) : (p < 0) = (¬ 8 < p) := by
  rw [Int32.lt_iff_toInt_lt, Int32.lt_iff_toInt_lt]
  rw [← Int32.toInt_inj] at h0 h1 h2 h3 h4 h5 h6 h7 h8
  have e0 : (0 : Int32).toInt = 0 := rfl
  have e1 : (1 : Int32).toInt = 1 := rfl
  have e2 : (2 : Int32).toInt = 2 := rfl
  have e3 : (3 : Int32).toInt = 3 := rfl
  have e4 : (4 : Int32).toInt = 4 := rfl
  have e5 : (5 : Int32).toInt = 5 := rfl
  have e6 : (6 : Int32).toInt = 6 := rfl
  have e7 : (7 : Int32).toInt = 7 := rfl
  have e8 : (8 : Int32).toInt = 8 := rfl
  apply propext; omega
theorem ib9 {p : Int32} (h0 : ¬ p = 0) (h1 : ¬ p = 1) (h2 : ¬ p = 2) (h3 : ¬ p = 3) (h4 : ¬ p = 4) (h5 : ¬ p = 5) (h6 : ¬ p = 6) (h7 : ¬ p = 7) (h8 : ¬ p = 8) (h9 : ¬ p = 9) : (p < 0) = (¬ 9 < p) := by
  rw [Int32.lt_iff_toInt_lt, Int32.lt_iff_toInt_lt]
  rw [← Int32.toInt_inj] at h0 h1 h2 h3 h4 h5 h6 h7 h8 h9
  have e0 : (0 : Int32).toInt = 0 := rfl
  have e1 : (1 : Int32).toInt = 1 := rfl
  have e2 : (2 : Int32).toInt = 2 := rfl
  have e3 : (3 : Int32).toInt = 3 := rfl
  have e4 : (4 : Int32).toInt = 4 := rfl
  have e5 : (5 : Int32).toInt = 5 := rfl
  have e6 : (6 : Int32).toInt = 6 := rfl
  have e7 : (7 : Int32).toInt = 7 := rfl
  have e8 : (8 : Int32).toInt = 8 := rfl
  have e9 : (9 : Int32).toInt = 9 := rfl
  apply propext; omega
theorem ib10 {p : Int32} (h0 : ¬ p = 0) (h1 : ¬ p = 1) (h2 : ¬ p = 2) (h3 : ¬ p = 3) (h4 : ¬ p = 4) (h5 : ¬ p = 5) (h6 : ¬ p = 6) (h7 : ¬ p = 7) (h8 : ¬ p = 8) (h9 : ¬ p = 9) (h10 : ¬ p = 10) : (p < 0) = (¬ 10 < p) := by
  rw [Int32.lt_iff_toInt_lt, Int32.lt_iff_toInt_lt]
  rw [← Int32.toInt_inj] at h0 h1 h2 h3 h4 h5 h6 h7 h8 h9 h10
  have e0 : (0 : Int32).toInt = 0 := rfl
  have e1 : (1 : Int32).toInt = 1 := rfl
  have e2 : (2 : Int32).toInt = 2 := rfl
  have e3 : (3 : Int32).toInt = 3 := rfl
  have e4 : (4 : Int32).toInt = 4 := rfl
  have e5 : (5 : Int32).toInt = 5 := rfl
  have e6 : (6 : Int32).toInt = 6 := rfl
  have e7 : (7 : Int32).toInt = 7 := rfl
  have e8 : (8 : Int32).toInt = 8 := rfl
  have e9 : (9 : Int32).toInt = 9 := rfl
  have e10 : (10 : Int32).toInt = 10 := rfl
  apply propext; omega
theorem i_le {a b : Int32} : (a ≤ b) = (¬ b < a) := propext ⟨fun h => Int32.not_lt.mpr h, fun h => Int32.not_lt.mp h⟩
theorem i_lt4 {p : Int32} : (p < 4) = (¬ 3 < p) := by
  rw [Int32.lt_iff_toInt_lt, Int32.lt_iff_toInt_lt]
  have e4 : (4 : Int32).toInt = 4 := rfl
  have e3 : (3 : Int32).toInt = 3 := rfl
  apply propext; omega
theorem i_pos {p : Int32} (h : ¬ p < 1) : (p < 0) = False := by
  rw [Int32.lt_iff_toInt_lt] at *
  have e4 : (1 : Int32).toInt = 1 := rfl
  have e3 : (0 : Int32).toInt = 0 := rfl
  exact eq_false (by omega)
theorem i_pos2 {p : Int32} (h : ¬ p < 1) : (0 < p) = True := by
  rw [Int32.lt_iff_toInt_lt] at *
  have e4 : (1 : Int32).toInt = 1 := rfl
  have e3 : (0 : Int32).toInt = 0 := rfl
  exact eq_true (by omega)
theorem i_m1 {p : Int32} : (0 - 1 < p) = (¬ p < 0) := by
  rw [Int32.lt_iff_toInt_lt, Int32.lt_iff_toInt_lt]
  have e4 : (0 - 1 : Int32).toInt = -1 := rfl
  have e3 : (0 : Int32).toInt = 0 := rfl
  apply propext; omega
theorem i_cell1 : ((0 : Int32) + 1).toNatClampNeg = 1 := rfl
theorem i_cell2 : ((0 : Int32) + 2).toNatClampNeg = 2 := rfl
theorem i_cell3 : ((0 : Int32) + 3).toNatClampNeg = 3 := rfl
theorem i_cell4 : ((0 : Int32) + 4).toNatClampNeg = 4 := rfl
theorem i_cell5 : ((0 : Int32) + 5).toNatClampNeg = 5 := rfl
theorem i_cell0 : (0 : Int32).toNatClampNeg = 0 := rfl
theorem i_n1 : (1 : Int32).toNatClampNeg = 1 := rfl
theorem i_n2 : (2 : Int32).toNatClampNeg = 2 := rfl
theorem i_n3 : (3 : Int32).toNatClampNeg = 3 := rfl
abbrev y_Post : Int32 → z_Mem → Prop := fun x _ => x = 1
abbrev y_J (xs : Nat → Int32) : Option Nat → Option Nat → Option Nat → Int32 → z_Mem → Prop := fun q0 q1 q2 q3 qM => P_L_law_23 6 xs y_Post 1 q0 q1 q2 q3 qM
