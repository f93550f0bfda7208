/-! ===== THE REFERENCE: by a cube, by rates ===== -/
theorem i_tdivN {a b : Int} (h : a ≤ 0) (hb : 0 ≤ b) : a.tdiv b ≤ 0 := by
  have e := Int.neg_tdiv (-a) b
  rw [Int.neg_neg] at e
  have g := Int.tdiv_nonneg (a := -a) (b := b) (by omega) hb
  omega
section RFL
variable {x y : Int64} {a b : Int}
theorem l_addE (hx : x.toInt = a) (hy : y.toInt = b) (h0 : -9223372036854775808 ≤ a + b) (h1 : a + b < 9223372036854775808) : (x + y).toInt = a + b := by
  rw [Int64.toInt_add, hx, hy, Int.bmod_eq_of_le (by omega) (by omega)]
theorem l_subE (hx : x.toInt = a) (hy : y.toInt = b) (h0 : -9223372036854775808 ≤ a - b) (h1 : a - b < 9223372036854775808) : (x - y).toInt = a - b := by
  rw [Int64.toInt_sub, hx, hy, Int.bmod_eq_of_le (by omega) (by omega)]
theorem l_mulE (hx : x.toInt = a) (hy : y.toInt = b) (h0 : -9223372036854775808 ≤ a * b) (h1 : a * b < 9223372036854775808) : (x * y).toInt = a * b := by
  rw [Int64.toInt_mul, hx, hy, Int.bmod_eq_of_le (by omega) (by omega)]
theorem l_divE (hx : x.toInt = a) (hy : y.toInt = b) (hb : 1 ≤ b) : (x / y).toInt = a.tdiv b := by
  have l := Int64.toInt_lt x
  have l2 := Int64.le_toInt x
  rw [hx] at l l2
  obtain ⟨u, v⟩ := i_tdivB (a := a) (d := b) (B := 9223372036854775808) (by omega) (by omega) hb
  have w : a.tdiv b < 9223372036854775808 := by
    rcases (show 0 ≤ a ∨ a < 0 by omega) with h | h
    · obtain ⟨u1, v1⟩ := i_tdivB (a := a) (d := b) (B := a) (by omega) (by omega) hb
      omega
    · have := i_tdivN (a := a) (b := b) (by omega) (by omega)
      omega
  rw [Int64.toInt_div, hx, hy, Int.bmod_eq_of_le (by omega) (by omega)]
theorem lg_le (h : 0 ≤ lg_cmp x y) : y.toInt ≤ x.toInt := by
  unfold lg_cmp at h
  split at h
  · rename_i h1
    have := Int64.lt_iff_toInt_lt.mp h1
    omega
  · split at h
    · rename_i h1 h2
      rw [h2]; exact Int.le_refl _
    · exact absurd h (by decide)
theorem i_cub {v : Int} (h0 : -4000 ≤ v) (h1 : v ≤ 4000) : (0 ≤ v * v ∧ v * v ≤ 16000000) ∧ -64000000000 ≤ v * v * v ∧ v * v * v ≤ 64000000000 := by
  have p := Int.mul_nonneg (a := 4000 - v) (b := 4000 + v) (by omega) (by omega)
  have e : (4000 - v) * (4000 + v) = 16000000 - v * v := by grind
  have g : 0 ≤ v * v := by
    rcases (show 0 ≤ v ∨ v ≤ 0 by omega) with h | h
    · exact Int.mul_nonneg h h
    · exact Int.mul_nonneg_of_nonpos_of_nonpos h h
  have u1 := Int.mul_le_mul_of_nonneg_left h1 g
  have u2 := Int.mul_le_mul_of_nonneg_left h0 g
  omega
theorem l_cub {v : Int} (hx : x.toInt = v) (h0 : -4000 ≤ v) (h1 : v ≤ 4000) : (2 * x * x * x).toInt = 2 * (v * v * v) := by
  obtain ⟨⟨g1, g2⟩, g3, g4⟩ := i_cub h0 h1
  have e1 : 2 * v * v = 2 * (v * v) := Int.mul_assoc _ _ _
  have e2 : 2 * v * v * v = 2 * (v * v * v) := by rw [e1, Int.mul_assoc]
  have d1 : (2 * x).toInt = 2 * v := l_mulE (show (2 : Int64).toInt = 2 from rfl) hx (by omega) (by omega)
  have d2 : (2 * x * x).toInt = 2 * v * v := l_mulE d1 hx (by omega) (by omega)
  have d3 : (2 * x * x * x).toInt = 2 * v * v * v := l_mulE d2 hx (by omega) (by omega)
  rw [d3, e2]
end RFL
/-- what the aim by a cube is at most -/
theorem i_aim {w now ht kk B : Int} (h0 : 0 ≤ ht) (h1 : ht ≤ now) (h2 : now ≤ 2000) (hk : 0 ≤ kk) (hk2 : kk ≤ 2000) (hB : 125 * w ≤ B + 2 * (ht * ht * ht)) : 125 * (w + (2 * ((now - ht - kk) * (now - ht - kk) * (now - ht - kk))).tdiv 125) ≤ B + 2 * (now * now * now) := by
  have c := rf_cube h0 h1
  obtain ⟨g1, g2, g3⟩ := i_cub (v := now - ht - kk) (by omega) (by omega)
  rcases (show 0 ≤ now - ht - kk ∨ now - ht - kk ≤ 0 by omega) with h | h
  · have u := rf_cube h (show now - ht - kk ≤ now - ht by omega)
    have v := rf_cubes (a := now - ht) (b := ht) (by omega) h0
    rw [show now - ht + ht = now by omega] at v
    have p : 0 ≤ (now - ht - kk) * (now - ht - kk) * (now - ht - kk) := Int.mul_nonneg (Int.mul_nonneg h h) h
    rw [Int.tdiv_eq_ediv_of_nonneg (by omega)]
    omega
  · have p : (now - ht - kk) * (now - ht - kk) * (now - ht - kk) ≤ 0 := by
      have := Int.mul_le_mul_of_nonneg_left h g1.1
      omega
    have := i_tdivN (a := 2 * ((now - ht - kk) * (now - ht - kk) * (now - ht - kk))) (b := 125) (by omega) (by decide)
    omega
/-- how much the window is more -/
theorem i_step {aim W : Int} (hW : 32 ≤ W) (h : 1 ≤ (16 * (aim - W)).tdiv W) : (16 * (aim - W)).tdiv W ≤ aim - W := by
  rcases (show 16 * (aim - W) ≤ 0 ∨ 0 < aim - W by omega) with g | g
  · have := i_tdivN g (b := W) (by omega)
    omega
  · have e : (16 * (aim - W)).tdiv W = 16 * (aim - W) / W := Int.tdiv_eq_ediv_of_nonneg (by omega)
    rw [e] at h ⊢
    have g1 : 16 * (aim - W) / W * W ≤ 16 * (aim - W) := Int.ediv_mul_le _ (by omega)
    have g2 : 16 * (aim - W) / W * 32 ≤ 16 * (aim - W) / W * W := Int.mul_le_mul_of_nonneg_left hW (by omega)
    omega
section RFG
variable {n t s q z : Nat} {M0 M M1 M2 : z_Mem}
theorem t_cube11 {p1 : Int32} {x2 : Int64} {Post : Int32 → z_Mem → Prop} (J : rf_J n t s q z M0 M) (h_p1 : 0 ≤ p1.toInt ∧ p1.toInt ≤ 1) (hx2 : x2.toInt = (z_ai M (n + 103) p1.toNatClampNeg).toInt) (k : ∀ r, 1 ≤ r.toInt → (r.toInt = 1 ∨ 125 * ((z_ai M (n + 84) p1.toNatClampNeg).toInt + r.toInt) ≤ 3200000000 + 2000 * (z_ai M (n + 97) p1.toNatClampNeg).toInt + 2 * ((z_fi M 1536 (n + 40)).toInt * (z_fi M 1536 (n + 40)).toInt * (z_fi M 1536 (n + 40)).toInt)) → Post r M) : ∀ (m : Nat) (x4 : Int64), (2000 - x4.toInt).toNat < m → 0 ≤ x4.toInt → x4.toInt ≤ 2000 → P_X12_byCube_11 (n + 40) Post m p1 x2 x4 M := by
  have hx : p1.toNatClampNeg < 2 := i_natlt (by omega) (by omega)
  obtain ⟨w1, w2, w3, w4, w5, w6⟩ := rf_C6a J hx
  have wb := rf_wb J hx
  have bn := f_1536 J
  have ba := a_97 J p1.toNatClampNeg
  have c1 := rf_cb w3 (show (z_ai M (n + 101) p1.toNatClampNeg).toInt ≤ 2000 by omega)
  have c2 := rf_cb bn.1 bn.2
  have lw := Int32.le_toInt (z_ai M (n + 103) p1.toNatClampNeg)
  intro m
  induction m with
  | zero => intro x4 h; omega
  | succ m ih =>
    intro x4 hm h0 h1
    refine And.intro (fun _ => ?_) (fun c => ?_)
    · refine z_nn_of (s_1624_40 J.1) (And.intro (vp_of (L := 2) (s_l101 J.1) (by omega) (by omega)) ?_)
      intro x6 e6 x7 e7
      have t6 : x6.toInt = (z_fi M 1536 (n + 40)).toInt - (z_ai M (n + 101) p1.toNatClampNeg).toInt - x4.toInt := by
        rw [e6]; exact l_subE (by rw [Int32.toInt_toInt64]; exact i_subE rfl rfl (by omega) (by omega)) rfl (by omega) (by omega)
      have ha := i_aim (w := (z_ai M (n + 103) p1.toNatClampNeg).toInt) (kk := x4.toInt) (B := 3200000000 + 2000 * (z_ai M (n + 97) p1.toNatClampNeg).toInt) w3 w4 bn.2 h0 h1 w5
      rw [← t6] at ha
      obtain ⟨q1, q2, q3⟩ := i_cub (v := x6.toInt) (by omega) (by omega)
      have tb := i_tdivB (a := 2 * (x6.toInt * x6.toInt * x6.toInt)) (d := 125) (B := 128000000000) (by omega) (by omega) (by decide)
      have t7 : x7.toInt = (z_ai M (n + 103) p1.toNatClampNeg).toInt + (2 * (x6.toInt * x6.toInt * x6.toInt)).tdiv 125 := by
        rw [e7]; exact l_addE hx2 (l_divE (l_cub rfl (by omega) (by omega)) (show (125 : Int64).toInt = 125 from rfl) (by decide)) (by omega) (by omega)
      generalize (2 * (x6.toInt * x6.toInt * x6.toInt)).tdiv 125 = td at t7 ha tb
      have hv : vp_in p1 (z_ln M (n + 84)) := vp_of (L := 2) (s_l84 J.1) (by omega) (by omega)
      refine z_nn_of (s_1607_40 J.1) (And.intro hv (z_nn_of (s_1607_40 J.1) (And.intro hv (And.intro (fun e => ?_) ?_))))
      · have e9 := congrArg Int64.toInt e
        rw [Int32.toInt_toInt64, show (0 : Int64).toInt = 0 from rfl] at e9
        omega
      · intro x15 e15
        have t15 : x15.toInt = (16 * ((z_ai M (n + 103) p1.toNatClampNeg).toInt + td - (z_ai M (n + 84) p1.toNatClampNeg).toInt)).tdiv (z_ai M (n + 84) p1.toNatClampNeg).toInt := by
          rw [e15]; exact l_divE (l_mulE (show (16 : Int64).toInt = 16 from rfl) (l_subE t7 (Int32.toInt_toInt64 _) (by omega) (by omega)) (by omega) (by omega)) (Int32.toInt_toInt64 _) (by omega)
        refine And.intro (fun c5 => ?_) (fun _ => k 1 (by decide) (Or.inl rfl))
        have c5' := lg_le c5
        rw [show (1 : Int64).toInt = 1 from rfl, t15] at c5'
        have st := i_step w1 c5'
        rw [← t15] at c5' st
        exact k _ (by rw [Int64.toInt_toInt32, Int.bmod_eq_of_le (by omega) (by omega)]; exact c5') (Or.inr (by rw [Int64.toInt_toInt32, Int.bmod_eq_of_le (by omega) (by omega)]; omega))
    · have hne : x4.toInt < 2000 := by
        obtain ⟨⟨g1, g2⟩, g3, g4⟩ := i_cub (v := x4.toInt) (by omega) (by omega)
        have lt := Int64.lt_iff_toInt_lt.mp (lg_lt c)
        rw [show (2 * x4 * x4 * x4 / 125).toInt = (2 * (x4.toInt * x4.toInt * x4.toInt)).tdiv 125 from l_divE (l_cub rfl (by omega) (by omega)) (show (125 : Int64).toInt = 125 from rfl) (by decide), show (3 * x2 / 10).toInt = (3 * (z_ai M (n + 103) p1.toNatClampNeg).toInt).tdiv 10 from l_divE (l_mulE (show (3 : Int64).toInt = 3 from rfl) hx2 (by omega) (by omega)) (show (10 : Int64).toInt = 10 from rfl) (by decide)] at lt
        rcases (show x4.toInt < 2000 ∨ x4.toInt = 2000 by omega) with e | e
        · exact e
        · rw [e] at lt
          rw [show (2 * (2000 * 2000 * 2000) : Int).tdiv 125 = 128000000 from by decide] at lt
          rcases (show 0 ≤ (z_ai M (n + 103) p1.toNatClampNeg).toInt ∨ (z_ai M (n + 103) p1.toNatClampNeg).toInt ≤ 0 by omega) with g | g
          · rw [Int.tdiv_eq_ediv_of_nonneg (by omega)] at lt; omega
          · have := i_tdivN (a := 3 * (z_ai M (n + 103) p1.toNatClampNeg).toInt) (b := 10) (by omega) (by decide)
            omega
      intro y ey
      have ty : y.toInt = x4.toInt + 1 := by rw [ey]; exact l_addE rfl (show (1 : Int64).toInt = 1 from rfl) (by omega) (by omega)
      exact ih y (by omega) (by omega) (by omega)
theorem t_X12_byCube {p1 : Int32} {Post : Int32 → z_Mem → Prop} (J : rf_J n t s q z M0 M) (h_p1 : 0 ≤ p1.toInt ∧ p1.toInt ≤ 1) (k : ∀ r, 1 ≤ r.toInt → (r.toInt = 1 ∨ 125 * ((z_ai M (n + 84) p1.toNatClampNeg).toInt + r.toInt) ≤ 3200000000 + 2000 * (z_ai M (n + 97) p1.toNatClampNeg).toInt + 2 * ((z_fi M 1536 (n + 40)).toInt * (z_fi M 1536 (n + 40)).toInt * (z_fi M 1536 (n + 40)).toInt)) → Post r M) : P_X12_byCube (n + 40) p1 M Post := by
  refine z_nn_of (s_1626_40 J.1) (And.intro (vp_of (L := 2) (s_l103 J.1) (by omega) (by omega)) ?_)
  intro x21 e21
  exact ⟨_, t_cube11 J h_p1 (by rw [e21, Int32.toInt_toInt64]) k _ 0 (Nat.lt_succ_self _) (by decide) (by decide)⟩
theorem t_gr96 {x2 : Int32} {Post : z_Mem → Prop} (J : rf_J n t s q z M0 M) (h_x2 : 0 ≤ x2.toInt ∧ x2.toInt ≤ 1) (k : ∀ M1, rf_J n t s q z M0 M1 → Post M1) : ∀ (m : Nat) (x4 x5 : Int32), (8 - x5.toInt).toNat < m → 0 ≤ x4.toInt → x4.toInt ≤ 6400 → 0 ≤ x5.toInt → P_X12_grows_96 (n + 40) Post m x2 x4 x5 M := by
  have hx : x2.toNatClampNeg < 2 := i_natlt (by omega) (by omega)
  have T8 : (8 : Int32).toInt = 8 := rfl
  intro m
  induction m with
  | zero => intro x4 x5 h; omega
  | succ m ih =>
    intro x4 x5 hm g0 g1 h0
    refine And.intro (fun _ => z_nn_of (s_1612_40 J.1) (And.intro (vp_of (L := 2) (s_l89 J.1) (by omega) (by omega)) (t_X12_max J (fun r hr h1 h2 => z_nn_of (s_1607_40 J.1) (And.intro (vp_of (L := 2) (s_l84 J.1) (by omega) (by omega)) ?_))))) (fun c => z_nn_of (s_1621_40 J.1) ?_)
    · intro M9 e9
      have bl := a_89 J x2.toNatClampNeg
      have ba := a_97 J x2.toNatClampNeg
      have bn := f_1536 J
      have c2 := rf_cb bn.1 bn.2
      have p0 : 0 ≤ x4.toInt * (z_ai M (n + 89) x2.toNatClampNeg).toInt := Int.mul_nonneg g0 bl.1
      have p1 : x4.toInt * (z_ai M (n + 89) x2.toNatClampNeg).toInt ≤ 6400 * 2000 := Int.mul_le_mul g1 bl.2 bl.1 (by decide)
      have e2 : 2 * x4.toInt * (z_ai M (n + 89) x2.toNatClampNeg).toInt = 2 * (x4.toInt * (z_ai M (n + 89) x2.toNatClampNeg).toInt) := Int.mul_assoc _ _ _
      rw [show (64 : Int32).toInt = 64 from rfl] at h1
      have hr' : r.toInt ≤ 25600000 := by
        rcases hr with e | e
        · rw [e]; decide
        · rw [e, show ((2 * x4) * (z_ai M (n + 89) x2.toNatClampNeg)).toInt = 2 * x4.toInt * (z_ai M (n + 89) x2.toNatClampNeg).toInt from i_mulE (i_mulE (show (2 : Int32).toInt = 2 from rfl) rfl (by omega) (by omega)) rfl (by omega) (by omega)]; omega
      exact k _ (w_84 J e9 (by omega) (by omega))
    · have c' := i_nle c T8 rfl
      have ti : vp_in ((8 * x2) + x5) (z_ln M (n + 98)) := vp_of (L := 16) (s_l98 J.1) (by rw [i_addE (i_mulE T8 rfl (by omega) (by omega)) rfl (by omega) (by omega)]; omega) (by rw [i_addE (i_mulE T8 rfl (by omega) (by omega)) rfl (by omega) (by omega)]; omega)
      refine And.intro ti (t_X12_max J (fun r hr h1 h2 => ?_))
      intro y ey
      have b8 := a_98 J ((8 * x2) + x5).toNatClampNeg
      have t1 := i_add1 (x := x5) (by omega) (by omega)
      have hr' : r.toInt = x4.toInt ∨ r.toInt = (z_ai M (n + 98) ((8 * x2) + x5).toNatClampNeg).toInt := by
        rcases hr with e | e
        · exact Or.inl (by rw [e])
        · exact Or.inr (by rw [e])
      exact ih r y (by rw [ey, t1]; omega) (by omega) (by omega) (by rw [ey, t1]; omega)
theorem t_X12_grows {p1 : Int32} {Post : z_Mem → Prop} (J : rf_J n t s q (z + 1) M0 M) (h_p1 : 0 ≤ p1.toInt ∧ p1.toInt ≤ 399) (k : ∀ M1, rf_J n t s q z M0 M1 → Post M1) : P_X12_grows (n + 40) p1 M Post := by
  refine z_nn_of (s_1593_40 J.1) (And.intro (vp_of (L := 400) (s_l71 J.1) (by omega) (by omega)) ?_)
  intro x e
  have hxb : 0 ≤ x.toInt ∧ x.toInt ≤ 1 := by rw [e]; exact a_71 J _
  have hx : x.toNatClampNeg < 2 := i_natlt (by omega) (by omega)
  have hv : ∀ {L : Nat}, L = 2 → vp_in x L := fun h => vp_of (L := 2) h (by omega) (by omega)
  obtain ⟨w1, w2, w3, w4, w5, w6, w7⟩ := rf_C6a J hx
  have ba := a_97 J x.toNatClampNeg
  refine z_nn_of (s_1620_40 J.1) (And.intro (hv (s_l97 J.1)) (And.intro (hv (s_l97 J.1)) ?_))
  intro M23 e23
  have ta : (z_ai M (n + 97) x.toNatClampNeg + 1).toInt = (z_ai M (n + 97) x.toNatClampNeg).toInt + 1 := i_addE rfl (show (1 : Int32).toInt = 1 from rfl) (by omega) (by omega)
  have J3 := w_97 J e23 hx ta
  have r84 : z_ai M23 (n + 84) = z_ai M (n + 84) := by rw [e23, rf_na (by decide)]
  have r97 : (z_ai M23 (n + 97) x.toNatClampNeg).toInt = (z_ai M (n + 97) x.toNatClampNeg).toInt + 1 := by rw [e23, rf_ea, if_pos rfl, ta]
  have r99 : z_ai M23 (n + 99) = z_ai M (n + 99) := by rw [e23, rf_na (by decide)]
  have rf3 : z_fi M23 = z_fi M := by rw [e23]; rfl
  have wb := rf_wb J3 hx
  have w2' : 125 * ((z_ai M23 (n + 84) x.toNatClampNeg).toInt + 16) ≤ 3200000000 + 2000 * (z_ai M23 (n + 97) x.toNatClampNeg).toInt + 2 * ((z_fi M23 1536 (n + 40)).toInt * (z_fi M23 1536 (n + 40)).toInt * (z_fi M23 1536 (n + 40)).toInt) := by
    rw [r84, r97, rf3]; omega
  have bn := f_1536 J3
  have ba3 := a_97 J3 x.toNatClampNeg
  refine z_nn_of (s_1609_40 J3.1) (And.intro (hv (s_l86 J3.1)) (And.intro (fun _ => ?_) (fun _ => ?_)))
  · refine z_nn_of (s_1620_40 J3.1) (And.intro (hv (s_l97 J3.1)) (z_nn_of (s_1605_40 J3.1) (And.intro (vp_of (L := 400) (s_l83 J3.1) (by omega) (by omega)) (z_nn_of (s_1594_40 J3.1) (And.intro (vp_of (L := 400) (s_l72 J3.1) (by omega) (by omega)) (t_X12_max J3 (fun r hr h1 h2 => And.intro (i_nz h1) ?_)))))))
    intro y ey
    have b83 := a_83 J3 p1.toNatClampNeg
    rw [show (1 : Int32).toInt = 1 from rfl] at h1
    have ty : -6400 ≤ y.toInt ∧ y.toInt ≤ 6400 := by
      have tb := i_tdivB (a := 16 * ((z_ai M23 (n + 97) x.toNatClampNeg).toInt - (z_ai M23 (n + 83) p1.toNatClampNeg).toInt)) (d := r.toInt) (B := 6400) (by omega) (by omega) h1
      rw [ey, Int32.toInt_div, show (16 * (z_ai M23 (n + 97) x.toNatClampNeg - z_ai M23 (n + 83) p1.toNatClampNeg)).toInt = 16 * ((z_ai M23 (n + 97) x.toNatClampNeg).toInt - (z_ai M23 (n + 83) p1.toNatClampNeg).toInt) from i_mulE (show (16 : Int32).toInt = 16 from rfl) (i_subE rfl rfl (by omega) (by omega)) (by omega) (by omega), Int.bmod_eq_of_le (by omega) (by omega)]
      exact tb
    have b99 := a_99 J3 x.toNatClampNeg
    have ti : vp_in (8 * x + (z_ai M23 (n + 99) x.toNatClampNeg - z_ai M23 (n + 99) x.toNatClampNeg / 8 * 8)) (z_ln M23 (n + 98)) := by
      have e9 : (8 * x + (z_ai M23 (n + 99) x.toNatClampNeg - z_ai M23 (n + 99) x.toNatClampNeg / 8 * 8)).toInt = 8 * x.toInt + (z_ai M23 (n + 99) x.toNatClampNeg).toInt % 8 := i_addE (i_mulE (show (8 : Int32).toInt = 8 from rfl) rfl (by omega) (by omega)) (i_modE8 rfl b99.1) (by omega) (by omega)
      generalize 8 * x + (z_ai M23 (n + 99) x.toNatClampNeg - z_ai M23 (n + 99) x.toNatClampNeg / 8 * 8) = ix at e9 ⊢
      exact vp_of (L := 16) (s_l98 J3.1) (by omega) (by omega)
    refine z_nn_of (s_1622_40 J3.1) (And.intro (hv (s_l99 J3.1)) (z_nn_of (s_1621_40 J3.1) (And.intro ti ?_)))
    intro M76 e76
    have J76 := w_98 J3 e76 ty.1 ty.2
    refine z_nn_of (s_1622_40 J76.1) (And.intro (hv (s_l99 J76.1)) (And.intro (hv (s_l99 J76.1)) ?_))
    intro M81 e81
    have r76 : z_ai M76 (n + 99) = z_ai M23 (n + 99) := by rw [e76, rf_na (by decide)]
    have r77 : z_ai M76 (n + 97) = z_ai M23 (n + 97) := by rw [e76, rf_na (by decide)]
    have tf : (z_ai M76 (n + 99) x.toNatClampNeg + 1).toInt = (z_ai M23 (n + 99) x.toNatClampNeg).toInt + 1 := by rw [r76]; exact i_addE rfl (show (1 : Int32).toInt = 1 from rfl) (by omega) (by omega)
    have J81 := w_99 J76 e81 (by rw [tf]; omega) (by rw [tf, r77, r97, r99]; omega)
    exact ⟨9, t_gr96 J81 hxb k 9 0 0 (by decide) (by decide) (by decide) (by decide)⟩
  · have h84 : vp_in x (z_ln M23 (n + 84)) := hv (s_l84 J3.1)
    refine z_nn_of (s_1607_40 J3.1) (And.intro h84 (z_nn_of (s_1608_40 J3.1) (And.intro (hv (s_l85 J3.1)) (And.intro (fun _ => ?_) (fun _ => ?_)))))
    · refine z_nn_of (s_1607_40 J3.1) (And.intro h84 (z_nn_of (s_1609_40 J3.1) (And.intro (hv (s_l86 J3.1)) (And.intro (fun _ => ?_) (fun _ => ?_)))))
      · refine z_nn_of (s_1607_40 J3.1) (And.intro h84 (And.intro (i_nz (by omega)) (t_X12_max J3 (fun r hr h1 h2 => And.intro h84 ?_))))
        intro M51 e51
        have b256 := i_256 wb.1 (by omega)
        rw [show (1 : Int32).toInt = 1 from rfl] at h1
        have hr' : r.toInt ≤ 8 := by
          rcases hr with e | e
          · rw [e]; decide
          · rw [e]; exact b256.2
        have tv : (z_ai M23 (n + 84) x.toNatClampNeg + r).toInt = (z_ai M23 (n + 84) x.toNatClampNeg).toInt + r.toInt := i_addE rfl rfl (by omega) (by omega)
        exact k _ (w_84 J3 e51 (by rw [tv]; omega) (by rw [tv]; omega))
      · refine t_X12_byCube J3 hxb (fun r h1 h2 => And.intro h84 ?_)
        intro M44 e44
        have bc := rf_cb bn.1 bn.2
        have tv : (z_ai M23 (n + 84) x.toNatClampNeg + r).toInt = (z_ai M23 (n + 84) x.toNatClampNeg).toInt + r.toInt := i_addE rfl rfl (by omega) (by omega)
        exact k _ (w_84 J3 e44 (by rw [tv]; omega) (by rw [tv]; omega))
    · refine z_nn_of (s_1607_40 J3.1) (And.intro h84 (And.intro h84 ?_))
      intro M56 e56
      have tv : (z_ai M23 (n + 84) x.toNatClampNeg + 16).toInt = (z_ai M23 (n + 84) x.toNatClampNeg).toInt + 16 := i_addE rfl (show (16 : Int32).toInt = 16 from rfl) (by omega) (by omega)
      exact k _ (w_84 J3 e56 (by rw [tv]; omega) (by rw [tv]; omega))
end RFG
