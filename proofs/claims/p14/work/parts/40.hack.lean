/-! ===== THE CLASS: the client hears an ACK ===== -/
section YH
variable {n c s : Nat} {M0 M : z_Mem}
theorem t_takeCredits_2 {b : Nat} {Post : z_Mem → Prop} (k : ∀ M1, y_CI n c s M0 M1 → y_ak n M1 b → Post M1) : ∀ (m : Nat) (x2 : Int32) (M : z_Mem), (4 - x2.toInt).toNat < m → 0 ≤ x2.toInt → y_CI n c s M0 M → y_ak n M b → P_X1_takeCredits_2 (n + 31) Post m (some b) x2 M := by
  have T4 : (4 : Int32).toInt = 4 := rfl
  intro m
  induction m with
  | zero => intro x2 M h; omega
  | succ m ih =>
    intro x2 M hm h0 I hk
    obtain ⟨w1, w2, l, h, e, q0, q1, q2, -, -, ⟨e1, e2, e3⟩⟩ := id hk
    refine And.intro (fun _ => z_nn_of rfl ?_) (fun c1 => z_nn_of (s_129_31 I.1) ?_)
    · intro M5 e5
      exact k _ (r_sfi I e5 (by decide +kernel)) (y_ak_sfi hk e5)
    · rw [Int32.le_iff_toInt_le] at c1
      obtain ⟨st, hs, -⟩ := t_strAt (x := x2) I.1 h0 (by omega)
      refine And.intro (vp_of (L := 4) (s_l11 I.1) h0 (by omega)) (z_nn_of (s_129_31 I.1) (And.intro (vp_of (L := 4) (s_l11 I.1) h0 (by omega)) (z_nn_of hs (z_nn_of rfl (z_nn_of q2 (And.intro (vp_of e1 h0 (by omega)) (z_nn_of hs ?_)))))))
      intro M19 e19 y ey
      have t1 := i_add1 (x := x2) (by omega) (by omega)
      exact ih _ _ (by rw [ey]; omega) (by rw [ey]; omega) (r_sfi I e19 (by decide +kernel)) (y_ak_sfi hk e19)
theorem t_ack109 {b : Nat} {Post : z_Mem → Prop} (I : y_CI n c s M0 M) (hk : y_ak n M b) (k : ∀ M1, y_CI n c s M0 M1 → Post M1) : P_X1_hearAck_109 (n + 31) Post (some b) M := by
  refine ⟨5, t_takeCredits_2 (fun M12 I12 _ => z_nn_of (s_130_31 I12.1) ?_) 5 0 M (by decide) (by decide) I hk⟩
  intro M15 e15
  have I15 := r_sfi I12 e15 (by decide +kernel)
  refine z_nn_of (s_131_31 I15.1) ?_
  intro M18 e18
  have I18 := r_sfi I15 e18 (by decide +kernel)
  rw [s_130_31 I18.1]
  refine t_X1_findLosses I18 (Or.inl rfl) (fun M20 I20 => ?_)
  rw [s_131_31 I20.1]
  exact t_X1_findLosses I20 (Or.inr rfl) (fun M22 I22 => k _ I22)
theorem t_ack52 {b : Nat} {x2 : Option Nat} {x3 x4 : Int32} {Post : z_Mem → Prop} {J : Option Nat → Option Nat → Int32 → Int32 → z_Mem → Prop} (h0 : 0 ≤ x4.toInt) (h1 : x4.toInt < 4) (kj : ∀ y M1, y = x4 + (-1) → y_CI n c s M0 M1 → y_ak n M1 b → J (some b) x2 x3 y M1) : ∀ (m : Nat) (x5 : Int32) (M : z_Mem), (400 - x5.toInt).toNat < m → y_CI n c s M0 M → y_ak n M b → P_X1_hearAck_52 (n + 31) Post J m (some b) x2 x3 x4 x5 M := by
  intro m
  induction m with
  | zero => intro x5 M h; omega
  | succ m ih =>
    intro x5 M hm I hk
    have ls := y_sent I
    obtain ⟨w1, w2, l, h, e, q0, q1, q2, -, ⟨e1, e2, e3⟩, -⟩ := id hk
    have f89 : P_X1_hearAck_89 (n + 31) Post J (some b) x2 x3 x4 M := fun y ey => kj y M ey I hk
    refine z_nn_of rfl (z_nn_of q1 (And.intro (vp_of e1 h0 (by omega)) (And.intro (fun _ => f89) (fun _ => And.intro (fun _ => f89) (fun c1 => t_X1_packetAt I rfl (fun x9 => ?_))))))
    rw [Int32.le_iff_toInt_le] at c1
    refine t_X1_acknowledge (r_rf I) rfl (fun M10 J10 => ?_)
    intro y ey
    have t1 := i_add1g (x := x5) (by omega)
    exact ih _ _ (by rw [ey]; omega) (r_tr I J10) (J10.2.2.2.2.2.2.2.2 b hk)
theorem t_ack38 {b : Nat} {x2 : Option Nat} {x3 : Int32} {Post : z_Mem → Prop} (k : ∀ M1, y_CI n c s M0 M1 → Post M1) : ∀ (m : Nat) (x4 : Int32) (M : z_Mem), (x4.toInt + 1).toNat < m → x4.toInt < 4 → y_CI n c s M0 M → y_ak n M b → P_X1_hearAck_38 (n + 31) Post m (some b) x2 x3 x4 M := by
  have T0 : (0 : Int32).toInt = 0 := rfl
  intro m
  induction m with
  | zero => intro x4 M h; omega
  | succ m ih =>
    intro x4 M hm h4 I hk
    obtain ⟨w1, w2, l, h, e, q0, q1, q2, ⟨e1, e2, e3⟩, -, -⟩ := id hk
    refine And.intro (fun _ => And.intro (fun _ => t_ack109 I hk k) (fun a24 h24 => z_nn_of rfl ?_)) (fun c1 => z_nn_of rfl (z_nn_of q0 (And.intro (vp_of e1 ?_ (by omega)) ?_)))
    · rw [h24]
      exact t_X1_hearOfGreatest (r_rf I) rfl ⟨_, rfl⟩ (fun M27 J27 => t_ack109 (r_tr I J27) (J27.2.2.2.2.2.2.2.2 b hk) k)
    · rw [Int32.lt_iff_toInt_lt] at c1; omega
    · rw [Int32.lt_iff_toInt_lt] at c1
      intro x32 _
      refine ⟨_, t_ack52 (c := c) (s := s) (M0 := M0) (by omega) h4 (fun y M1 ey I1 hk1 => ?_) _ x32 M (Nat.lt_succ_self _) I hk⟩
      have t1 := i_addm1 (x := x4) (by omega) (by omega)
      have g1 : (y.toInt + 1).toNat < m := by rw [ey, t1]; omega
      have g2 : y.toInt < 4 := by rw [ey, t1]; omega
      exact ih y M1 g1 g2 I1 hk1
theorem t_X1_hearAck {b : Nat} {Post : z_Mem → Prop} (I : y_CI n c s M0 M) (hk : y_ak n M b) (k : ∀ M1, y_CI n c s M0 M1 → Post M1) : P_X1_hearAck (n + 31) (some b) M Post := by
  obtain ⟨w1, w2, l, h, e, q0, q1, q2, -, ⟨e1, e2, e3⟩, -⟩ := id hk
  have T4 : (4 : Int32).toInt = 4 := rfl
  have f25 : ∀ x2 t0, P_X1_hearAck_25 (n + 31) Post (some b) x2 t0 M := fun x2 t0 => z_nn_of rfl (by
    intro x36 ex
    have hb : x36.toInt < 4 := by
      rw [ex]
      split
      · decide
      · rename_i hh
        rw [Int32.lt_iff_toInt_lt, T4] at hh
        have g := y_rng I b
        rw [i_sub1 (by omega) (by omega)]; omega
    exact ⟨_, t_ack38 k _ x36 M (Nat.lt_succ_self _) hb I hk⟩)
  refine z_nn_of rfl ?_
  have fg : ∀ x38, P_X1_packetAt (n + 31) x38 M fun x_40 M_40 => (((x_40 = none → P_X1_hearAck_24 (n + 31) Post (some b) x_40 M_40) ∧ (∀ a41 : Nat, x_40 = some a41 → (((z_fi M_40 778 a41) = 0 → P_X1_hearAck_25 (n + 31) Post (some b) x_40 1 M_40) ∧ (¬ (z_fi M_40 778 a41) = 0 → P_X1_hearAck_24 (n + 31) Post (some b) x_40 M_40))))) := fun x38 =>
    t_X1_packetAt I rfl (fun x40 => And.intro (fun _ => f25 _ _) (fun a41 _ => And.intro (fun _ => f25 _ _) (fun _ => f25 _ _)))
  exact And.intro (fun _ => fg _) (fun _ => z_nn_of q1 (And.intro (by rw [e1]; exact y_in (by decide)) (fg _)))
end YH
