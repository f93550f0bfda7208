/-! ===== THE LIKENESS: the reference's growth does not look at the greatest place ===== -/
section JG3
variable {n : Nat} {M M0 M1 M2 : z_Mem} {r r1 r2 : q_R} {TL CL : List Nat} {t s q z : Nat} {d : Int} {f g : Nat → Int32}
theorem q_cube2 {w : Int32} (f1 : r1.1 1536 = r.1 1536) (f2 : r1.2 84 0 = r.2 84 0) (f3 : r1.2 101 0 = r.2 101 0) (h103 : 0 ≤ w.toInt) (h103b : w.toInt ≤ 400000000) : ∀ (m : Nat) (x4 : Int64), (2000 - x4.toInt).toNat < m → 0 ≤ x4.toInt → x4.toInt ≤ 2000 → ∃ v, qF_byCube_11 0 w.toInt64 x4 r = (v, r) ∧ qF_byCube_11 0 w.toInt64 x4 r1 = (v, r1) := by
  have e0 : (0 : Int32).toNatClampNeg = 0 := rfl
  have hx2 : (w.toInt64).toInt = w.toInt := Int32.toInt_toInt64 _
  intro m
  induction m with
  | zero => intro x4 h; omega
  | succ m ih =>
    intro x4 hm h0 h1
    have hC := qE_byCube_11 0 w.toInt64 x4 r1
    have hQ := qE_byCube_11 0 w.toInt64 x4 r
    rw [e0] at hQ
    rw [e0, f1, f2, f3] at hC
    by_cases c : 0 ≤ lg_cmp ((((2 * x4) * x4) * x4) / 125) ((3 * w.toInt64) / 10)
    · rw [if_pos c] at hC hQ
      generalize hy : ((r.1 1536) - (r.2 101 0)).toInt64 - x4 = y at hC hQ
      replace hQ := hQ.trans (q_ste (b := y) rfl)
      replace hC := hC.trans (q_ste (b := y) rfl)
      generalize hu : w.toInt64 + ((((2 * y) * y) * y) / 125) = u at hC hQ
      replace hQ := hQ.trans (q_ste (b := u) rfl)
      replace hC := hC.trans (q_ste (b := u) rfl)
      generalize hx : (16 * (u - (r.2 84 0).toInt64)) / (r.2 84 0).toInt64 = x at hC hQ
      replace hQ := hQ.trans (q_ste (b := x) rfl)
      replace hC := hC.trans (q_ste (b := x) rfl)
      by_cases c5 : 0 ≤ lg_cmp x 1
      · rw [if_pos c5] at hQ hC
        exact ⟨_, qUr_byCube_11 hQ, qUr_byCube_11 hC⟩
      · rw [if_neg c5] at hQ hC
        exact ⟨_, qUr_byCube_11 hQ, qUr_byCube_11 hC⟩
    · rw [if_neg c] at hC hQ
      have hne : x4.toInt < 2000 := by
        obtain ⟨⟨g1, g2⟩, g3, g4⟩ := i_cub (v := x4.toInt) (by omega) (by omega)
        have lt := Int64.lt_iff_toInt_lt.mp (lg_lt c)
        rw [show (2 * x4 * x4 * x4 / 125).toInt = (2 * (x4.toInt * x4.toInt * x4.toInt)).tdiv 125 from l_divE (l_cub rfl (by omega) (by omega)) (show (125 : Int64).toInt = 125 from rfl) (by decide), show (3 * w.toInt64 / 10).toInt = (3 * w.toInt).tdiv 10 from l_divE (l_mulE (show (3 : Int64).toInt = 3 from rfl) hx2 (by omega) (by omega)) (show (10 : Int64).toInt = 10 from rfl) (by decide)] at lt
        rcases (show x4.toInt < 2000 ∨ x4.toInt = 2000 by omega) with e | e
        · exact e
        · rw [e] at lt
          rw [show (2 * (2000 * 2000 * 2000) : Int).tdiv 125 = 128000000 from by decide] at lt
          rw [Int.tdiv_eq_ediv_of_nonneg (by omega)] at lt; omega
      have ty : (x4 + 1).toInt = x4.toInt + 1 := l_addE rfl (show (1 : Int64).toInt = 1 from rfl) (by omega) (by omega)
      replace hC := hC.trans (q_ste (b := x4 + 1) rfl)
      replace hQ := hQ.trans (q_ste (b := x4 + 1) rfl)
      obtain ⟨v, k1, k2⟩ := ih (x4 + 1) (by omega) (by omega) (by omega)
      exact ⟨v, (qUl_byCube_11 hQ).trans k1, (qUl_byCube_11 hC).trans k2⟩
theorem q_cubeC (f1 : r1.1 1536 = r.1 1536) (f2 : r1.2 84 0 = r.2 84 0) (f3 : r1.2 101 0 = r.2 101 0) (f4 : r1.2 103 0 = r.2 103 0) (h103 : 0 ≤ (r.2 103 0).toInt) (h103b : (r.2 103 0).toInt ≤ 400000000) : ∃ v, qF_byCube 0 r = (v, r) ∧ qF_byCube 0 r1 = (v, r1) := by
  have e0 : (0 : Int32).toNatClampNeg = 0 := rfl
  obtain ⟨v, k1, k2⟩ := q_cube2 f1 f2 f3 h103 h103b 2001 0 (by decide) (by decide) (by decide)
  have hC := qE_byCube 0 r1
  have hQ := qE_byCube 0 r
  rw [e0] at hQ
  rw [e0, f4] at hC
  exact ⟨v, (hQ.trans (q_ste (b := (r.2 103 0).toInt64) rfl)).trans k1, (hC.trans (q_ste (b := (r.2 103 0).toInt64) rfl)).trans k2⟩
end JG3
