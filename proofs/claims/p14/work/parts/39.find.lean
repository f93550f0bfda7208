/-! ===== THE CLASS: losses ===== -/
section YV
variable {n c s : Nat} {M0 M : z_Mem}
theorem t_growOf {rt : Nat} (hrt : rt = n + 32 ∨ rt = n + 35) (S : y_S n M) : ∃ g, z_fr M 897 rt = some g ∧ (g = n + 33 ∨ g = n + 36) := by
  rcases hrt with rfl | rfl
  · exact ⟨_, s_897_32 S, Or.inl rfl⟩
  · exact ⟨_, s_897_35 S, Or.inr rfl⟩
theorem t_find12 {rt : Nat} {Post : z_Mem → Prop} (hrt : rt = n + 32 ∨ rt = n + 35) (k : ∀ M1, y_CI n c s M0 M1 → Post M1) : ∀ (m : Nat) (x2 : Int32) (x3 : Option Nat) (x4 : Int32) (M : z_Mem), x4.toInt.toNat < m → y_CI n c s M0 M → P_X1_findLosses_12 (n + 31) Post m (some rt) x2 x3 x4 M := by
  have T0 : (0 : Int32).toInt = 0 := rfl
  intro m
  induction m with
  | zero => intro x2 x3 x4 M h; omega
  | succ m ih =>
    intro x2 x3 x4 M hm I
    refine And.intro (fun _ => k _ I) (fun c1 => And.intro (fun _ => k _ I) (fun q hq => ?_))
    rw [Int32.le_iff_toInt_le, T0] at c1
    subst hq
    have t1 : (x4 + (-1)).toInt = x4.toInt - 1 := by
      have := Int32.toInt_lt x4
      rw [Int32.toInt_add, show (-1 : Int32).toInt = -1 from rfl, Int.bmod_eq_of_le (by omega) (by omega)]; omega
    have f63 : P_X1_findLosses_63 (n + 31) Post (fun q0 q1 q2 q3 qM => P_X1_findLosses_12 (n + 31) Post m q0 q1 q2 q3 qM) (some rt) x2 (some q) x4 M := by
      refine t_X1_leaveFlight I rfl ⟨_, rfl⟩ (fun M1 I1 => z_nn_of rfl ?_)
      intro M4 e4
      have I4 := r_sfi I1 e4 (by decide +kernel)
      obtain ⟨g, hg, hg2⟩ := t_growOf hrt I4.1
      refine z_nn_of rfl (z_nn_of (s_128_31 I4.1) (z_nn_of hg (t_X2_harm I4 hg2 (fun M13 I13 => t_X1_lowestInFlight I13 (fun x15 M15 I15 => ?_)))))
      intro y ey
      exact ih _ _ _ _ (by rw [ey]; omega) I15
    have f38 : ∀ t0, P_X1_findLosses_38 (n + 31) Post (fun q0 q1 q2 q3 qM => P_X1_findLosses_12 (n + 31) Post m q0 q1 q2 q3 qM) (some rt) x2 (some q) x4 t0 M := fun t0 =>
      And.intro (fun _ => z_nn_of (s_128_31 I.1) (z_nn_of rfl (t_X7_isLostByTime I ⟨_, rfl⟩ (fun x21 => And.intro (fun _ => k _ I) (fun _ => f63))))) (fun _ => f63)
    exact And.intro (fun _ => f38 0) (fun _ => z_nn_of rfl (t_X7_isLostByOrder I ⟨_, rfl⟩ (fun x27 => And.intro (fun _ => f38 0) (fun _ => f38 1))))
theorem t_X1_findLosses {rt : Nat} {p2 : Int32} {Post : z_Mem → Prop} (I : y_CI n c s M0 M) (hrt : rt = n + 32 ∨ rt = n + 35) (k : ∀ M1, y_CI n c s M0 M1 → Post M1) : P_X1_findLosses (n + 31) (some rt) p2 M Post := by
  refine t_X1_lowestInFlight I (fun x30 M30 I30 => z_nn_of rfl ?_)
  intro x33 _
  exact ⟨_, t_find12 hrt k _ p2 x30 x33 M30 (Nat.lt_succ_self _) I30⟩
end YV
