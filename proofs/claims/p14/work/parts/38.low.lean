/-! ===== THE CLASS: the lowest packet in flight, losses ===== -/
theorem i_add1g {x : Int32} (h2 : x.toInt < 2000000) : (x + 1).toInt = x.toInt + 1 := by
  have := Int32.le_toInt x
  rw [Int32.toInt_add, show (1 : Int32).toInt = 1 from rfl, Int.bmod_eq_of_le (by omega) (by omega)]
section YQ
variable {n c s : Nat} {M0 M : z_Mem}
theorem t_low58 {rt : Nat} {Post : Option Nat → z_Mem → Prop} (I : y_CI n c s M0 M) (k : ∀ r, Post r M) : ∀ (m : Nat) (x3 : Int32), ((z_fi M 133 (n + 31)).toInt - x3.toInt).toNat < m → P_X1_lowestInFlight_58 (n + 31) Post m (some rt) x3 M := by
  have ls := y_sent I
  intro m
  induction m with
  | zero => intro x3 h; omega
  | succ m ih =>
    intro x3 hm
    refine And.intro (fun _ => k _) (fun c1 => z_nn_of rfl (And.intro (fun _ => k _) (fun _ => t_X1_packetAt I rfl (fun x7 => ?_))))
    rw [Int32.le_iff_toInt_le] at c1
    have t1 := i_add1g (x := x3) (by omega)
    have go : ∀ y : Int32, y = x3 + 1 → P_X1_lowestInFlight_58 (n + 31) Post m (some rt) y M := fun y ey => ih _ (by rw [ey]; omega)
    exact And.intro (fun _ => go) (fun a8 h8 => And.intro (fun _ => And.intro (fun _ => k _) (fun _ => go)) (fun _ => go))
theorem t_low53 {rt : Nat} {Post : Option Nat → z_Mem → Prop} (I : y_CI n c s M0 M) (k : ∀ r, Post r M) : P_X1_lowestInFlight_53 (n + 31) Post (some rt) M := fun x _ => ⟨_, t_low58 I k _ x (Nat.lt_succ_self _)⟩
theorem t_low9 {rt : Nat} {Post : Option Nat → z_Mem → Prop} (k : ∀ r M1, y_CI n c s M0 M1 → Post r M1) : ∀ (m : Nat) (x2 : Option Nat) (M : z_Mem), ((z_fi M 133 (n + 31)).toInt - (z_fi M 134 (n + 31)).toInt).toNat < m → y_CI n c s M0 M → P_X1_lowestInFlight_9 (n + 31) Post m (some rt) x2 M := by
  intro m
  induction m with
  | zero => intro x2 M h; omega
  | succ m ih =>
    intro x2 M hm I
    have ls := y_sent I
    have fin := t_low53 (rt := rt) I (fun r => k r M I)
    refine And.intro (fun _ => fin) (fun c1 => And.intro (fun _ => fin) (fun a20 h20 => And.intro (fun _ => fin) (fun _ => ?_)))
    rw [Int32.le_iff_toInt_le] at c1
    intro M24 e24
    have I24 := r_sfi I e24 (by decide +kernel)
    have t1 := i_add1g (x := z_fi M 134 (n + 31)) (by omega)
    have v1 : z_fi M24 133 (n + 31) = z_fi M 133 (n + 31) := by rw [e24, y_spne (by decide)]
    have v2 : z_fi M24 134 (n + 31) = z_fi M 134 (n + 31) + 1 := by rw [e24, zq_fi_sfi, if_pos rfl, if_pos rfl]
    exact t_X1_packetAt I24 rfl (fun x26 => ih _ _ (by rw [v1, v2]; omega) I24)
theorem t_X1_lowestInFlight {rt : Nat} {Post : Option Nat → z_Mem → Prop} (I : y_CI n c s M0 M) (k : ∀ r M1, y_CI n c s M0 M1 → Post r M1) : P_X1_lowestInFlight (n + 31) (some rt) M Post :=
  t_X1_packetAt I rfl (fun x => ⟨_, t_low9 k _ x M (Nat.lt_succ_self _) I⟩)
end YQ
