/-! ===== THE CLASS: the client hears ===== -/
section YX
variable {n c s : Nat} {M0 M : z_Mem}
theorem t_hear92 {q : Nat} {x2 : Int32} {Post : z_Mem → Prop} (I : y_CI n c s M0 M) (h5 : ¬ z_fi M 135 (n + 31) = 0) (k : ∀ M1, y_CI n c s M0 M1 → Post M1) : P_X1_hear_92 (n + 31) Post (some q) x2 M := by
  have fa : ∀ b, z_fr M 516 q = some b → P_X1_hearAck (n + 31) (z_fr M 516 q) M fun M_14 => (Post M_14) := fun b hb => by
    rw [hb]
    exact t_X1_hearAck I (I.2.2.2.1 q b hb) k
  refine z_nn_of rfl (And.intro (fun _ => And.intro (fun _ => And.intro (fun _ => k _ I) (fun b hb => And.intro (fun _ => fa b hb) (fun _ => k _ I))) (fun _ => t_X1_hearAccept I h5 k)) (fun _ => And.intro (fun _ => k _ I) (fun b hb => And.intro (fun _ => fa b hb) (fun _ => k _ I))))
theorem t_hear13 {q : Nat} {t0 : Int32} {Post : z_Mem → Prop} (I : y_CI n c s M0 M) (h5 : ¬ z_fi M 135 (n + 31) = 0) (k : ∀ M1, y_CI n c s M0 M1 → Post M1) : P_X1_hear_13 (n + 31) Post (some q) t0 M := by
  refine z_nn_of rfl (And.intro (fun _ => ?_) (fun _ => And.intro (fun _ => And.intro (fun _ => z_nn_of (s_130_31 I.1) ?_) (fun _ => z_nn_of (s_131_31 I.1) ?_)) (fun _ => And.intro (fun _ => And.intro (fun _ => t_hear92 I h5 k) (fun _ => And.intro (fun hc => ?_) (fun _ => t_hear92 I h5 k))) (fun _ => t_hear92 I h5 k))))
  · intro M34 e34
    exact k _ (r_state I e34 h5 (by decide))
  · intro M33 e33
    exact k _ (r_sfi I e33 (by decide +kernel))
  · intro M33 e33
    exact k _ (r_sfi I e33 (by decide +kernel))
  · intro M27 e27 M28 e28
    have I27 := r_cookie I e27 hc (by decide)
    have I28 := r_sfi I27 e28 (by decide +kernel)
    exact t_X1_sayHello (c := c) (s := s) (r_w I28 (by omega) (by omega)) rfl (fun M29 I29 => k _ I29)
theorem t_X1_hear {q : Nat} {Post : z_Mem → Prop} (I : y_CI n c s M0 M) (h5 : ¬ z_fi M 135 (n + 31) = 0) (k : ∀ M1, y_CI n c s M0 M1 → Post M1) : P_X1_hear (n + 31) (some q) M Post := And.intro (fun _ => t_hear13 I h5 k) (fun _ => t_hear13 I h5 k)
end YX
