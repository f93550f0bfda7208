section YS2
variable {n c s : Nat} {M0 M : z_Mem}
theorem t_hallS {Post : z_Mem → Prop} (k : ∀ M1, y_CI n c s M0 M1 → Post M1) : ∀ (m : Nat) (x1 : Int32) (M : z_Mem), x1.toInt.toNat < m → y_CI n c s M0 M → P_X8_hearAll_11 (n + 28) Post m x1 M := by
  have T0 : (0 : Int32).toInt = 0 := rfl
  intro m
  induction m with
  | zero => intro x1 M h; omega
  | succ m ih =>
    intro x1 M hm I
    refine And.intro (fun _ => k _ I) (fun c1 => z_nn_of (s_1024_28 I.1) (z_nn_of (s_1024_28 I.1) (z_nn_of (s_642_1 I.1) ?_)))
    rw [Int32.le_iff_toInt_le, T0] at c1
    have t1 := t_i_dec (x := x1) (by omega)
    refine t_takeDueS I (And.intro (fun _ => k _ I) (fun b hb => nomatch hb)) (fun q M8 I8 => And.intro (fun hb => nomatch hb) (fun a10 h10 => ?_))
    cases h10
    refine t_X8_hear (c := c) (s := s) (r_w I8 (by omega) (by omega)) rfl ⟨_, rfl⟩ (fun M11 I11 => ?_)
    intro y ey
    have g1 : y.toInt.toNat < m := by rw [ey, t1]; omega
    exact ih y M11 g1 I11
theorem t_X8_hearAll {Post : z_Mem → Prop} (I : y_CI n c s M0 M) (k : ∀ M1, y_CI n c s M0 M1 → Post M1) : P_X8_hearAll (n + 28) M Post := by
  refine z_nn_of (s_1024_28 I.1) (z_nn_of (s_642_1 I.1) ?_)
  intro x _
  exact ⟨_, t_hallS k _ x M (Nat.lt_succ_self _) I⟩
end YS2
