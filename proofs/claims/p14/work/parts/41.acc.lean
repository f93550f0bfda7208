/-! ===== THE CLASS: the client is accepted ===== -/
section YW
variable {n c s : Nat} {M0 M : z_Mem}
theorem t_acc29 {Post : z_Mem → Prop} (k : ∀ M1, y_CI n c s M0 M1 → Post M1) : ∀ (m : Nat) (x1 x2 : Int32) (M : z_Mem), (400 - x2.toInt).toNat < m → y_CI n c s M0 M → P_X1_hearAccept_29 (n + 31) Post m x1 x2 M := by
  intro m
  induction m with
  | zero => intro x1 x2 M h; omega
  | succ m ih =>
    intro x1 x2 M hm I
    have ls := y_sent I
    refine And.intro (fun _ => k _ I) (fun c1 => And.intro (fun _ => t_X1_packetAt I rfl (fun x5 => ?_)) (fun _ => k _ I))
    rw [Int32.le_iff_toInt_le] at c1
    have t1 := i_add1g (x := x2) (by omega)
    have go : ∀ (M1 : z_Mem), y_CI n c s M0 M1 → ∀ y : Int32, y = x2 + 1 → P_X1_hearAccept_29 (n + 31) Post m x1 y M1 := fun M1 I1 y ey => by
      have g1 : (400 - y.toInt).toNat < m := by rw [ey, t1]; omega
      exact ih x1 y M1 g1 I1
    refine And.intro (fun _ => go M I) (fun a6 h6 => And.intro (fun _ => go M I) (fun _ => And.intro (fun _ => ?_) (fun _ => go M I)))
    rw [h6]
    exact t_X1_leaveFlight I rfl ⟨_, rfl⟩ (fun M11 I11 => go M11 I11)
theorem t_X1_hearAccept {p1 : Int32} {Post : z_Mem → Prop} (I : y_CI n c s M0 M) (h5 : ¬ z_fi M 135 (n + 31) = 0) (k : ∀ M1, y_CI n c s M0 M1 → Post M1) : P_X1_hearAccept (n + 31) p1 M Post := by
  intro M12 e12
  have I12 := r_state I e12 h5 (by decide)
  refine z_nn_of (s_128_31 I12.1) (z_nn_of (s_130_31 I12.1) (t_X7_measure I12 (Or.inl rfl) (fun M18 I18 => ?_)))
  intro x21 _
  exact ⟨_, t_acc29 k _ p1 x21 M18 (Nat.lt_succ_self _) I18⟩
end YW
