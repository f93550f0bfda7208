/-! ===== THE REFERENCE: numbers ===== -/
section RFN
variable {x y : Int32} {a b : Int}
theorem i_addE (hx : x.toInt = a) (hy : y.toInt = b) (h0 : -2147483648 ≤ a + b) (h1 : a + b < 2147483648) : (x + y).toInt = a + b := by
  rw [Int32.toInt_add, hx, hy, Int.bmod_eq_of_le (by omega) (by omega)]
theorem i_subE (hx : x.toInt = a) (hy : y.toInt = b) (h0 : -2147483648 ≤ a - b) (h1 : a - b < 2147483648) : (x - y).toInt = a - b := by
  rw [Int32.toInt_sub, hx, hy, Int.bmod_eq_of_le (by omega) (by omega)]
theorem i_mulE (hx : x.toInt = a) (hy : y.toInt = b) (h0 : -2147483648 ≤ a * b) (h1 : a * b < 2147483648) : (x * y).toInt = a * b := by
  rw [Int32.toInt_mul, hx, hy, Int.bmod_eq_of_le (by omega) (by omega)]
theorem i_divE (hx : x.toInt = a) (hy : y.toInt = b) (h0 : 0 ≤ a) (h1 : 0 < b) : (x / y).toInt = a / b := by
  have l := Int32.toInt_lt x
  rw [hx] at l
  have u : a / b ≤ a := Int.ediv_le_self b h0
  have v : 0 ≤ a / b := Int.ediv_nonneg h0 (by omega)
  rw [Int32.toInt_div, hx, hy, Int.tdiv_eq_ediv_of_nonneg h0, Int.bmod_eq_of_le (by omega) (by omega)]
theorem i_le (h : x ≤ y) (hx : x.toInt = a) (hy : y.toInt = b) : a ≤ b := by rw [Int32.le_iff_toInt_le, hx, hy] at h; exact h
theorem i_nle (h : ¬ x ≤ y) (hx : x.toInt = a) (hy : y.toInt = b) : ¬ a ≤ b := by rw [Int32.le_iff_toInt_le, hx, hy] at h; exact h
theorem i_lt (h : x < y) (hx : x.toInt = a) (hy : y.toInt = b) : a < b := by rw [Int32.lt_iff_toInt_lt, hx, hy] at h; exact h
theorem i_nlt (h : ¬ x < y) (hx : x.toInt = a) (hy : y.toInt = b) : ¬ a < b := by rw [Int32.lt_iff_toInt_lt, hx, hy] at h; exact h
theorem i_eq (h : x = y) (hx : x.toInt = a) (hy : y.toInt = b) : a = b := by rw [← hx, ← hy, h]
theorem i_ne (h : ¬ x = y) (hx : x.toInt = a) (hy : y.toInt = b) : ¬ a = b := fun e => h (Int32.toInt_inj.mp (by rw [hx, hy, e]))
theorem i_natlt {k : Nat} (h0 : 0 ≤ x.toInt) (h1 : x.toInt < k) : x.toNatClampNeg < k := by
  have := i_nat2 h0; omega
theorem i_nz (h : 1 ≤ x.toInt) : ¬ x = 0 := fun e => by rw [e] at h; exact absurd h (by decide)
theorem i_modE2 (hx : x.toInt = a) (h0 : 0 ≤ a) : (x - x / 2 * 2).toInt = a % 2 := by
  have l := Int32.toInt_lt x
  rw [hx] at l
  rw [i_subE hx (i_mulE (i_divE hx (show (2 : Int32).toInt = 2 from rfl) h0 (by decide)) (show (2 : Int32).toInt = 2 from rfl) (by omega) (by omega)) (by omega) (by omega)]
  omega
theorem i_modE4 (hx : x.toInt = a) (h0 : 0 ≤ a) : (x - x / 4 * 4).toInt = a % 4 := by
  have l := Int32.toInt_lt x
  rw [hx] at l
  rw [i_subE hx (i_mulE (i_divE hx (show (4 : Int32).toInt = 4 from rfl) h0 (by decide)) (show (4 : Int32).toInt = 4 from rfl) (by omega) (by omega)) (by omega) (by omega)]
  omega
theorem i_modE8 (hx : x.toInt = a) (h0 : 0 ≤ a) : (x - x / 8 * 8).toInt = a % 8 := by
  have l := Int32.toInt_lt x
  rw [hx] at l
  rw [i_subE hx (i_mulE (i_divE hx (show (8 : Int32).toInt = 8 from rfl) h0 (by decide)) (show (8 : Int32).toInt = 8 from rfl) (by omega) (by omega)) (by omega) (by omega)]
  omega
theorem i_half (h0 : 0 ≤ x.toInt) : (x / 2).toInt ≤ x.toInt := by
  rw [i_divE rfl (show (2 : Int32).toInt = 2 from rfl) h0 (by decide)]; omega
theorem i_710 (h0 : 0 ≤ x.toInt) (h1 : x.toInt ≤ 200000000) : (7 * x / 10).toInt ≤ x.toInt := by
  rw [i_divE (i_mulE (show (7 : Int32).toInt = 7 from rfl) rfl (by omega) (by omega)) (show (10 : Int32).toInt = 10 from rfl) (by omega) (by decide)]; omega
end RFN
section RFM
variable {n t s q z : Nat} {M0 M : z_Mem}
theorem t_X12_max {p1 p2 : Int32} {Post : Int32 → z_Mem → Prop} (_ : rf_J n t s q z M0 M) (k : ∀ r, (r = p1 ∨ r = p2) → p1.toInt ≤ r.toInt → p2.toInt ≤ r.toInt → Post r M) : P_X12_max p1 p2 M Post := by
  refine And.intro (fun c => k _ (Or.inr rfl) (i_le c rfl rfl) (Int.le_refl _)) (fun c => k _ (Or.inl rfl) (Int.le_refl _) ?_)
  have := i_nle c rfl rfl
  omega
theorem rf_cb {a : Int} (h0 : 0 ≤ a) (h1 : a ≤ 2000) : 0 ≤ a * a * a ∧ a * a * a ≤ 8000000000 := by
  have := rf_cube h0 h1
  exact ⟨Int.mul_nonneg (Int.mul_nonneg h0 h0) h0, by omega⟩
theorem rf_wb (J : rf_J n t s q z M0 M) {p : Nat} (h : p < 2) : 32 ≤ (z_ai M (n + 84) p).toInt ∧ (z_ai M (n + 84) p).toInt ≤ 153606400 := by
  have a := rf_C6a J h
  have b := f_1536 J
  have c := rf_cb b.1 b.2
  have d := a_97 J p
  omega
theorem rf_tb (J : rf_J n t s q z M0 M) {p : Nat} (h : p < 2) {r : Int32} (hr : r = z_ai M (n + 84) p ∨ r = z_ai M (n + 103) p) (h1 : (z_ai M (n + 84) p).toInt ≤ r.toInt) : 32 ≤ r.toInt ∧ 125 * r.toInt ≤ 3200000000 + 2000 * (z_ai M (n + 97) p).toInt + 2 * ((z_fi M 1536 (n + 40)).toInt * (z_fi M 1536 (n + 40)).toInt * (z_fi M 1536 (n + 40)).toInt) := by
  obtain ⟨g1, g2, g3, g4, g5, g6⟩ := rf_C6a J h
  have c := rf_cube g3 g4
  rcases hr with e | e
  · rw [e] at h1 ⊢; omega
  · rw [e] at h1 ⊢; omega
theorem rf_hw (J : rf_J n t s q z M0 M) {p : Nat} (h : p < 2) (ht : (z_ai M (n + 101) p).toInt = (z_fi M 1536 (n + 40)).toInt) : 125 * (z_ai M (n + 84) p).toInt ≤ 3200000000 + 2000 * (z_ai M (n + 97) p).toInt + 2 * ((z_ai M (n + 101) p).toInt * (z_ai M (n + 101) p).toInt * (z_ai M (n + 101) p).toInt) := by
  rw [ht]; exact (rf_C6a J h).2.1
end RFM
