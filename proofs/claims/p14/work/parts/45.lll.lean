section YLL
variable {n : Nat} {M0 : z_Mem}
theorem t_lll {a c s : Nat} {Post : z_Mem → Prop} (ha : a = n + 2 ∨ a = n + 4) (k : ∀ M1, y_CI n c s M0 M1 → Post M1) : ∀ (m : Nat) (x2 : Int32) (M : z_Mem), (9 - x2.toInt).toNat < m → 0 ≤ x2.toInt → y_CI n (c + 9 * (9 - x2.toInt).toNat) (s + 40 * (9 - x2.toInt).toNat) M0 M → P_X5_letLeaveLane_2 (n + 1) Post m (some a) x2 M := by
  intro m
  induction m with
  | zero => intro x2 M h; omega
  | succ m ih =>
    intro x2 M hm h0 I
    have hr := (I.2.1.1 a ha).2.2.2.2
    refine z_nn_of rfl (And.intro (fun _ => k _ (r_w I (by omega) (by omega))) (fun c1 => And.intro (fun _ => k _ (r_w I (by omega) (by omega))) (fun c2 => ?_)))
    rw [Int32.le_iff_toInt_le] at c1
    have t1 := i_add1 (x := x2) (by omega) (by omega)
    obtain ⟨d, hd⟩ : ∃ d, (9 - x2.toInt).toNat = d + 1 := ⟨(9 - x2.toInt).toNat - 1, by omega⟩
    rw [hd] at I
    have go : ∀ (M1 : z_Mem), y_CI n (c + 9 * d) (s + 40 * d) M0 M1 → ∀ y : Int32, y = x2 + 1 → P_X5_letLeaveLane_2 (n + 1) Post m (some a) y M1 := fun M1 I1 y ey => by
      have g0 : (9 - y.toInt).toNat = d := by rw [ey, t1]; omega
      exact ih y M1 (by omega) (by rw [ey, t1]; omega) (by rw [g0]; exact I1)
    refine t_X3_removeFirst I ha c2 (fun x7 M7 I7 => And.intro (fun _ => go M7 (r_w I7 (by omega) (by omega))) (fun a8 h8 => And.intro (fun _ => go M7 (r_w I7 (by omega) (by omega))) (fun _ => ?_)))
    subst h8
    refine t_X3_takeLateness I7 ha (fun x14 M14 I14 => z_nn_of (s_642_1 I7.1) ?_)
    exact t_X10_appendS (c := c + 9 * d) (s := s + 40 * d) (r_w I14 (by omega) (by omega)) ⟨_, rfl⟩ (fun M15 I15 => go M15 I15)
theorem t_X5_letLeaveLane {a c s : Nat} {M : z_Mem} {Post : z_Mem → Prop} (I : y_CI n (c + 81) (s + 360) M0 M) (ha : a = n + 2 ∨ a = n + 4) (k : ∀ M1, y_CI n c s M0 M1 → Post M1) : P_X5_letLeaveLane (n + 1) (some a) M Post :=
  ⟨10, t_lll ha k 10 0 M (by decide) (by decide) I⟩
end YLL
