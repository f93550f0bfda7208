/-! ===== THE CLASS: both hear all ===== -/
section YZ
variable {n c s : Nat} {M0 M : z_Mem}
theorem t_i_dec {x : Int32} (h : 0 < x.toInt) : (x + (-1)).toInt = x.toInt - 1 := by
  have := Int32.toInt_lt x
  rw [Int32.toInt_add, show (-1 : Int32).toInt = -1 from rfl, Int.bmod_eq_of_le (by omega) (by omega)]; omega
theorem t_hallC {Post : z_Mem → Prop} (k : ∀ M1, y_CI n c s M0 M1 → Post M1) : ∀ (m : Nat) (x1 : Int32) (M : z_Mem), x1.toInt.toNat < m → y_CI n c s M0 M → P_X1_hearAll_11 (n + 31) Post m x1 M := by
  have T0 : (0 : Int32).toInt = 0 := rfl
  intro m
  induction m with
  | zero => intro x1 M h; omega
  | succ m ih =>
    intro x1 M hm I
    refine And.intro (fun _ => k _ I) (fun c1 => z_nn_of (s_128_31 I.1) (z_nn_of (s_128_31 I.1) (z_nn_of (s_643_1 I.1) ?_)))
    rw [Int32.le_iff_toInt_le, T0] at c1
    have t1 := t_i_dec (x := x1) (by omega)
    have go : ∀ (M1 : z_Mem), y_CI n c s M0 M1 → ∀ y : Int32, y = x1 + (-1) → P_X1_hearAll_11 (n + 31) Post m y M1 := fun M1 I1 y ey => by
      have g1 : y.toInt.toNat < m := by rw [ey, t1]; omega
      exact ih y M1 g1 I1
    refine t_takeDueC I (And.intro (fun _ => k _ I) (fun b hb => nomatch hb)) (fun q M10 I10 => And.intro (fun hb => nomatch hb) (fun a12 h12 => ?_))
    cases h12
    have h64 : ¬ z_fi M10 135 (n + 31) = 0 → P_X1_hearAll_64 (n + 31) Post (fun q0 qM => P_X1_hearAll_11 (n + 31) Post m q0 qM) x1 (some q) M10 := fun h5 => t_X1_hear I10 h5 (fun M2 I2 => go M2 I2)
    exact And.intro (fun e => h64 (by rw [e]; decide)) (fun _ => And.intro (fun e => h64 (by rw [e]; decide)) (fun _ => And.intro (fun e => h64 (by rw [e]; decide)) (fun _ => go M10 I10)))
theorem t_X1_hearAll {Post : z_Mem → Prop} (I : y_CI n c s M0 M) (k : ∀ M1, y_CI n c s M0 M1 → Post M1) : P_X1_hearAll (n + 31) M Post := by
  refine z_nn_of (s_128_31 I.1) (z_nn_of (s_643_1 I.1) ?_)
  intro x _
  exact ⟨_, t_hallC k _ x M (Nat.lt_succ_self _) I⟩
end YZ
