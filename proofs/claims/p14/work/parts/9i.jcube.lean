/-! ===== THE LIKENESS: a step by a cube (path 0, harmed) ===== -/
section JCB
variable {n : Nat} {M M0 M1 M2 : z_Mem} {r r1 : q_R} {TL CL : List Nat} {t s q z : Nat} {d : Int} {f g : Nat → Int32}
theorem lg_n10 {x4 : Int64} (h : x4.toInt ≤ 2000) : ¬ 0 ≤ lg_cmp x4 10000 := fun c => by
  have := lg_le c
  rw [show (10000 : Int64).toInt = 10000 from rfl] at this
  omega
theorem lg_mx {x : Int64} : ((if x < 1 then 1 else x : Int64)).toInt32 = (if 0 ≤ lg_cmp x 1 then x.toInt32 else 1) := by
  by_cases c : 0 ≤ lg_cmp x 1
  · have h := lg_le c
    rw [if_pos c, if_neg (by rw [Int64.lt_iff_toInt_lt]; omega)]
  · rw [if_neg c, if_pos (lg_lt c)]; rfl
theorem j_cube11 (J : JJ n M r TL CL) (hh : z_fi M 260 (n + 33) = r.2 103 0) (h84 : 1 ≤ (r.2 84 0).toInt) (h103 : 0 ≤ (r.2 103 0).toInt) (h103b : (r.2 103 0).toInt ≤ 400000000) : ∀ (m : Nat) (x4 : Int64), (2000 - x4.toInt).toNat < m → 0 ≤ x4.toInt → x4.toInt ≤ 2000 → ∃ v, cF_X2_cubeStep_17 (n + 33) (r.1 1536) ((3 * (r.2 103 0).toInt64) / 10) x4 M = (v, M) ∧ qF_byCube_11 0 (r.2 103 0).toInt64 x4 r = (v, r) := by
  have e0 : (0 : Int32).toNatClampNeg = 0 := rfl
  have hx2 : ((r.2 103 0).toInt64).toInt = (r.2 103 0).toInt := Int32.toInt_toInt64 _
  have g1 : z_fi M 262 (n + 33) = r.2 101 0 := js_262_33 J
  have g2 : z_fi M 257 (n + 33) = r.2 84 0 := js_257_33 J
  intro m
  induction m with
  | zero => intro x4 h; omega
  | succ m ih =>
    intro x4 hm h0 h1
    have hC := cE_X2_cubeStep_17 (n + 33) (r.1 1536) ((3 * (r.2 103 0).toInt64) / 10) x4 M
    have hQ := qE_byCube_11 0 (r.2 103 0).toInt64 x4 r
    rw [if_neg (lg_n10 h1)] at hC
    rw [e0] at hQ
    by_cases c : 0 ≤ lg_cmp ((((2 * x4) * x4) * x4) / 125) ((3 * (r.2 103 0).toInt64) / 10)
    · rw [if_pos c] at hC hQ
      have hD := cE_X2_cubeStep_56 (n + 33) (r.1 1536) x4 M
      rw [g1, g2, hh, j_max1 h84] at hD
      generalize hy : ((r.1 1536) - (r.2 101 0)).toInt64 - x4 = y at hD hQ
      replace hQ := hQ.trans (q_ste (b := y) rfl)
      replace hD := hD.trans (q_ste (b := y) rfl)
      generalize hu : (r.2 103 0).toInt64 + ((((2 * y) * y) * y) / 125) = u at hD hQ
      replace hQ := hQ.trans (q_ste (b := u) rfl)
      replace hD := hD.trans (q_ste (b := u) rfl)
      generalize hx : (16 * (u - (r.2 84 0).toInt64)) / (r.2 84 0).toInt64 = x at hD hQ
      replace hQ := hQ.trans (q_ste (b := x) rfl)
      rw [lg_mx] at hD
      refine ⟨if 0 ≤ lg_cmp x 1 then x.toInt32 else 1, (cUr_X2_cubeStep_17 hC).trans hD, ?_⟩
      by_cases c5 : 0 ≤ lg_cmp x 1
      · rw [if_pos c5] at hQ ⊢
        exact qUr_byCube_11 hQ
      · rw [if_neg c5] at hQ ⊢
        exact qUr_byCube_11 hQ
    · rw [if_neg c] at hC hQ
      have hne : x4.toInt < 2000 := by
        obtain ⟨⟨g1, g2⟩, g3, g4⟩ := i_cub (v := x4.toInt) (by omega) (by omega)
        have lt := Int64.lt_iff_toInt_lt.mp (lg_lt c)
        rw [show (2 * x4 * x4 * x4 / 125).toInt = (2 * (x4.toInt * x4.toInt * x4.toInt)).tdiv 125 from l_divE (l_cub rfl (by omega) (by omega)) (show (125 : Int64).toInt = 125 from rfl) (by decide), show (3 * (r.2 103 0).toInt64 / 10).toInt = (3 * (r.2 103 0).toInt).tdiv 10 from l_divE (l_mulE (show (3 : Int64).toInt = 3 from rfl) hx2 (by omega) (by omega)) (show (10 : Int64).toInt = 10 from rfl) (by decide)] at lt
        rcases (show x4.toInt < 2000 ∨ x4.toInt = 2000 by omega) with e | e
        · exact e
        · rw [e] at lt
          rw [show (2 * (2000 * 2000 * 2000) : Int).tdiv 125 = 128000000 from by decide] at lt
          rw [Int.tdiv_eq_ediv_of_nonneg (by omega)] at lt; omega
      have ty : (x4 + 1).toInt = x4.toInt + 1 := l_addE rfl (show (1 : Int64).toInt = 1 from rfl) (by omega) (by omega)
      replace hC := hC.trans (q_ste (b := x4 + 1) rfl)
      replace hQ := hQ.trans (q_ste (b := x4 + 1) rfl)
      obtain ⟨v, k1, k2⟩ := ih (x4 + 1) (by omega) (by omega) (by omega)
      exact ⟨v, (cUl_X2_cubeStep_17 hC).trans k1, (qUl_byCube_11 hQ).trans k2⟩
/-- the cube's step is alike where the path was harmed -/
theorem j_cube (J : JJ n M r TL CL) (h : ¬ r.2 100 0 = 0) (h84 : 1 ≤ (r.2 84 0).toInt) (h103 : 0 ≤ (r.2 103 0).toInt) (h103b : (r.2 103 0).toInt ≤ 400000000) : jCB n M r := fun _ _ => by
  have hh : z_fi M 260 (n + 33) = r.2 103 0 := (J.2.2.2.1.2.2.2.2.2.2.2.2.1 0 (by decide) h).1
  obtain ⟨v, k1, k2⟩ := j_cube11 J hh h84 h103 h103b 2001 0 (by decide) (by decide) (by decide)
  have e0 : (0 : Int32).toNatClampNeg = 0 := rfl
  have hC := cE_X2_cubeStep (n + 33) (r.1 1536) M
  rw [hh] at hC
  replace hC := hC.trans (q_ste (b := (3 * (r.2 103 0).toInt64) / 10) rfl)
  have hQ := qE_byCube 0 r
  rw [e0] at hQ
  replace hQ := hQ.trans (q_ste (b := (r.2 103 0).toInt64) rfl)
  exact ⟨v, hC.trans k1, hQ.trans k2⟩
end JCB
