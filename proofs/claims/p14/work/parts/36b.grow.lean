/-! ===== THE CLASS: how a window grows ===== -/
theorem lg_lt {x y : Int64} (h : ¬ 0 ≤ lg_cmp x y) : x < y := by
  unfold lg_cmp at h
  split at h
  · exact absurd (by decide) h
  · split at h
    · exact absurd (by decide) h
    · rename_i h1 h2
      rcases Int64.lt_or_eq_of_le (Int64.not_lt.mp h1) with q | q
      · exact q
      · exact absurd q h2
theorem i_max1L {p : Int32} : ¬ (((if 1 < p then p else 1) : Int32) : Int32).toInt64 = 0 := by
  intro e
  have h := congrArg Int64.toInt e
  rw [Int32.toInt_toInt64] at h
  exact i_max1 (Int32.toInt_inj.mp h)
section YG
variable {n c s : Nat} {M0 M : z_Mem}
theorem t_X2_keepRate {a : Nat} {p1 : Int32} {Post : z_Mem → Prop} (I : y_CI n c s M0 M) (ha : a = n + 33 ∨ a = n + 36) (k : ∀ M1, y_CI n c s M0 M1 → Post M1) : P_X2_keepRate a p1 M Post := by
  obtain ⟨l1, l2⟩ := I.2.1.2.2.2.1 a ha
  have fin : ∀ q, q < n + 40 → (∀ N, y_S n N → z_fr N 265 a = some q ∧ z_ln N q = 8) → P_X2_keepRate a p1 M Post := fun q hq hs => by
    obtain ⟨h1, h2⟩ := hs M I.1
    refine z_nn_of h1 (And.intro (vp_of (L := 8) h2 l1 (by omega)) ?_)
    intro M5 e5 M7 e7
    have I5 := r_sai I e5 (Or.inl hq)
    have hv : z_fi M5 266 a = z_fi M 266 a := by rw [e5, zq_fi_sai]
    rw [hv] at e7
    have t1 := i_add1 (x := z_fi M 266 a) (by omega) (by omega)
    obtain ⟨m1, m2⟩ := i_mod8 (x := z_fi M 266 a + 1) (by omega) (by omega)
    exact k _ (r_next I5 e7 m1 m2)
  rcases ha with rfl | rfl
  · exact fin (n + 34) (by omega) (fun N S => ⟨s_265_33 S, s_l34 S⟩)
  · exact fin (n + 37) (by omega) (fun N S => ⟨s_265_36 S, s_l37 S⟩)
theorem t_X2_greatestRate_13 {a b : Nat} {Post : Int32 → z_Mem → Prop} (hl : z_ln M b = 8) (k : ∀ r, Post r M) : ∀ (m : Nat) (x1 x4 : Int32), (8 - x4.toInt).toNat < m → 0 ≤ x4.toInt → P_X2_greatestRate_13 a Post m x1 (some b) (nI 8) x4 M := by
  have T8 : (nI 8).toInt = 8 := rfl
  intro m
  induction m with
  | zero => intro x1 x4 h; omega
  | succ m ih =>
    intro x1 x4 hm h0
    refine And.intro (fun _ => k _) (fun c1 => z_nn_of rfl ?_)
    rw [Int32.le_iff_toInt_le, T8] at c1
    refine And.intro (vp_of (L := 8) hl h0 (by omega)) ?_
    intro y ey z ez w ew
    have t1 := i_add1 (x := x4) (by omega) (by omega)
    exact ih _ _ (by rw [ew]; omega) (by rw [ew]; omega)
theorem t_X2_greatestRate {a : Nat} {Post : Int32 → z_Mem → Prop} (I : y_CI n c s M0 M) (ha : a = n + 33 ∨ a = n + 36) (k : ∀ r, Post r M) : P_X2_greatestRate a M Post := by
  have fin : ∀ q, z_fr M 265 a = some q → z_ln M q = 8 → P_X2_greatestRate a M Post := fun q h1 h2 => by
    refine z_nn_of h1 ?_
    intro x hx
    rw [h2] at hx
    rw [hx, h1]
    exact ⟨9, t_X2_greatestRate_13 h2 k 9 0 0 (by decide) (by decide)⟩
  rcases ha with rfl | rfl
  · exact fin (n + 34) (s_265_33 I.1) (s_l34 I.1)
  · exact fin (n + 37) (s_265_36 I.1) (s_l37 I.1)
theorem t_X2_cubeStep_17 {a : Nat} {Post : Int32 → z_Mem → Prop} (k : ∀ r, Post r M) : ∀ (m : Nat) (x1 : Int32) (x2 x4 : Int64), (10000 - x4.toInt).toNat < m → 0 ≤ x4.toInt → P_X2_cubeStep_17 a Post m x1 x2 x4 M := by
  have T : (10000 : Int64).toInt = 10000 := rfl
  have fin : ∀ x1 x4, P_X2_cubeStep_56 a Post x1 x4 M := fun x1 x4 => by
    intro y ey z ez
    exact And.intro i_max1L (k _)
  intro m
  induction m with
  | zero => intro x1 x2 x4 h; omega
  | succ m ih =>
    intro x1 x2 x4 hm h0
    refine And.intro (fun _ => fin _ _) (fun c1 => And.intro (fun _ => fin _ _) (fun _ => ?_))
    have hlt := lg_lt c1
    rw [Int64.lt_iff_toInt_lt, T] at hlt
    intro y ey
    have t1 : (x4 + 1).toInt = x4.toInt + 1 := by
      rw [Int64.toInt_add, show (1 : Int64).toInt = 1 from rfl, Int.bmod_eq_of_le (by omega) (by omega)]
    exact ih _ _ _ (by rw [ey]; omega) (by rw [ey]; omega)
theorem t_X2_cubeStep {a : Nat} {p1 : Int32} {Post : Int32 → z_Mem → Prop} (I : y_CI n c s M0 M) (k : ∀ r, Post r M) : P_X2_cubeStep a p1 M Post := by
  intro x hx
  exact ⟨10001, t_X2_cubeStep_17 k 10001 p1 x 0 (by decide) (by decide)⟩
end YG
