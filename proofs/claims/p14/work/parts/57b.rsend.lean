/-! ===== THE REFERENCE: all that is sent at 5. ===== -/
section RFZ
variable {n t s q z : Nat} {M0 M M1 M2 : z_Mem}
theorem t_sn21 {x1 x2 x3 : Int32} {P : Int} {Post : Int32 → z_Mem → Prop} (h1 : 0 ≤ x1.toInt ∧ x1.toInt ≤ 1) (h2 : 0 ≤ x2.toInt ∧ x2.toInt ≤ 3) (h3 : 0 ≤ x3.toInt) (hP : P < 400) (k : ∀ r M1, (¬ r = 0 → (z_fi M1 1606 (n + 40)).toInt = P + 1) → rf_J n t s q z M0 M1 → Post r M1) : ∀ (m : Nat) (x4 : Int32) (M : z_Mem), (10 - x4.toInt).toNat < m → 1 ≤ x4.toInt → x4.toInt ≤ 10 → x3.toInt + x4.toInt ≤ 200 → (z_fi M 1606 (n + 40)).toInt = P → rf_J n t s q z M0 M → P_X12_sendsNext_21 (n + 40) Post m x1 x2 x3 x4 M := by
  have T10 : (10 : Int32).toInt = 10 := rfl
  have T200 : (200 : Int32).toInt = 200 := rfl
  intro m
  induction m with
  | zero => intro x4 M h; exact absurd h (Nat.not_lt_zero _)
  | succ m ih =>
    intro x4 M hm g0 g1 g2 hp J
    have send := t_X12_sends (p5 := 0) (Post := fun M2 => Post 1 M2) J h1 h2 (p3 := x3) ⟨h3, by omega⟩ (p4 := x4) ⟨by omega, by omega⟩ g2 (by omega) (fun M1 p J1 => k 1 M1 (fun _ => by omega) J1)
    refine And.intro (fun _ => send) (fun c => And.intro (fun _ => send) (fun c2 => ?_))
    have c' := i_nle c T10 rfl
    have c2' := i_nle c2 T200 (i_addE (x := x3) (y := x4) rfl rfl (by omega) (by omega))
    refine t_X12_isLost J h2 (by rw [i_addE (x := x3) (y := x4) rfl rfl (by omega) (by omega)]; omega) (fun x5 => And.intro (fun _ => send) (fun _ => ?_))
    intro y ey
    have ty : y.toInt = x4.toInt + 1 := by rw [ey]; exact i_add1 (by omega) (by omega)
    exact ih y M (by omega) (by omega) (by omega) (by omega) hp J
theorem t_sn76 {x1 : Int32} {P : Int} {Post : Int32 → z_Mem → Prop} (h1 : 0 ≤ x1.toInt ∧ x1.toInt ≤ 1) (hP : P < 400) (k : ∀ r M1, (¬ r = 0 → (z_fi M1 1606 (n + 40)).toInt = P + 1) → rf_J n t s q z M0 M1 → Post r M1) : ∀ (m : Nat) (x2 : Int32) (M : z_Mem), (5 - x2.toInt).toNat < m → 0 ≤ x2.toInt → (z_fi M 1606 (n + 40)).toInt = P → rf_J n t s q z M0 M → P_X12_sendsNext_76 (n + 40) Post m x1 x2 M := by
  have T4 : (4 : Int32).toInt = 4 := rfl
  have T0 : (0 : Int32).toInt = 0 := rfl
  intro m
  induction m with
  | zero => intro x2 M h; exact absurd h (Nat.not_lt_zero _)
  | succ m ih =>
    intro x2 M hm h0 hp J
    refine And.intro (fun _ => k _ _ (fun h => absurd rfl h) J) (fun c => ?_)
    have c' := i_nlt c T4 rfl
    have b := f_1590 J
    intro x11 e11
    have hs : 0 ≤ x11.toInt ∧ x11.toInt ≤ 3 := by
      rw [e11, i_modE4 (i_addE (x := z_fi M 1590 (n + 40)) rfl rfl (by omega) (by omega)) (by omega)]
      omega
    have hv : ∀ {L : Nat}, L = 4 → vp_in x11 L := fun h => vp_of (L := 4) h (by omega) (by omega)
    refine t_X12_newOf J hs (fun x12 hn => And.intro (fun _ => ?_) (fun c3 => ?_))
    · intro y ey
      have ty : y.toInt = x2.toInt + 1 := by rw [ey]; exact i_add1 (by omega) (by omega)
      exact ih y M (by omega) (by omega) hp J
    · have c3' := i_nle c3 rfl T0
      have hn' := hn (by omega)
      have b66 := a_66 J x11.toNatClampNeg
      have b67 := a_67 J x11.toNatClampNeg
      refine z_nn_of (s_1587_40 J.1) (And.intro (hv (s_l67 J.1)) (And.intro (hv (s_l67 J.1)) ?_))
      intro M19 e19
      have tv : (z_ai M (n + 67) x11.toNatClampNeg + x12).toInt = (z_ai M (n + 67) x11.toNatClampNeg).toInt + x12.toInt := i_addE rfl rfl (by omega) (by omega)
      have J19 := w_67 J e19 (by rw [tv]; omega) (by rw [tv]; omega) (fun _ => by rw [tv]; omega)
      have r19 : z_ai M19 (n + 67) x11.toNatClampNeg = z_ai M (n + 67) x11.toNatClampNeg + x12 := by rw [e19, rf_ea, if_pos rfl]
      have f19 : z_fi M19 = z_fi M := by rw [e19]; rfl
      intro M20 e20
      have J20 := w_1590 J19 e20 hs.1 hs.2
      have r20 : z_ai M20 (n + 67) x11.toNatClampNeg = z_ai M (n + 67) x11.toNatClampNeg + x12 := by rw [e20, zq_ai_sfi]; exact r19
      have p20 : (z_fi M20 1606 (n + 40)).toInt = P := by rw [e20, rf_nf (by decide), f19]; exact hp
      have tw : (z_ai M20 (n + 67) x11.toNatClampNeg - x12).toInt = (z_ai M (n + 67) x11.toNatClampNeg).toInt := by
        rw [i_subE (a := (z_ai M (n + 67) x11.toNatClampNeg).toInt + x12.toInt) (by rw [r20]; exact tv) rfl (by omega) (by omega)]; omega
      clear tv
      refine z_nn_of (s_1587_40 J20.1) (And.intro (hv (s_l67 J20.1)) ?_)
      refine t_X12_sends J20 h1 hs (by rw [tw]; exact b67) ⟨by omega, by omega⟩ (by rw [tw]; omega) ?_ (fun M1 p J1 => k 1 M1 (fun _ => ?_) J1)
      · rw [p20]; exact hP
      · rw [p, p20]
theorem t_sn2 {x1 : Int32} {P : Int} {Post : Int32 → z_Mem → Prop} (h1 : 0 ≤ x1.toInt ∧ x1.toInt ≤ 1) (hP : P < 400) (k : ∀ r M1, (¬ r = 0 → (z_fi M1 1606 (n + 40)).toInt = P + 1) → rf_J n t s q z M0 M1 → Post r M1) : ∀ (m : Nat) (x2 : Int32) (M : z_Mem), (4 - x2.toInt).toNat < m → 0 ≤ x2.toInt → (z_fi M 1606 (n + 40)).toInt = P → rf_J n t s q z M0 M → P_X12_sendsNext_2 (n + 40) Post m x1 x2 M := by
  have T4 : (4 : Int32).toInt = 4 := rfl
  intro m
  induction m with
  | zero => intro x2 M h; exact absurd h (Nat.not_lt_zero _)
  | succ m ih =>
    intro x2 M hm h0 hp J
    refine And.intro (fun _ => ⟨5, t_sn76 h1 hP k 5 1 M (by decide) (by decide) hp J⟩) (fun c => ?_)
    have c' := i_nle c T4 rfl
    refine t_X12_firstLost J ⟨h0, by omega⟩ (fun x27 h27 => And.intro (fun _ => ?_) (fun c3 => ?_))
    · intro y ey
      have ty : y.toInt = x2.toInt + 1 := by rw [ey]; exact i_add1 (by omega) (by omega)
      exact ih y M (by omega) (by omega) hp J
    · have c3' := i_ne c3 rfl (show (-1 : Int32).toInt = -1 from rfl)
      have T1 : (1 : Int32).toInt = 1 := rfl
      exact ⟨_, t_sn21 h1 ⟨h0, by omega⟩ (by omega) hP k _ 1 M (Nat.lt_succ_self _) (by decide) (by decide) (by omega) hp J⟩
theorem t_X12_sendsNext {x1 : Int32} {P : Int} {Post : Int32 → z_Mem → Prop} (J : rf_J n t s q z M0 M) (h1 : 0 ≤ x1.toInt ∧ x1.toInt ≤ 1) (hP : P < 400) (hp : (z_fi M 1606 (n + 40)).toInt = P) (k : ∀ r M1, (¬ r = 0 → (z_fi M1 1606 (n + 40)).toInt = P + 1) → rf_J n t s q z M0 M1 → Post r M1) : P_X12_sendsNext (n + 40) x1 M Post :=
  ⟨5, t_sn2 h1 hP k 5 0 M (by decide) (by decide) hp J⟩
theorem t_sa44 {Post : z_Mem → Prop} (k : ∀ M1, rf_J n t s q z M0 M1 → Post M1) : ∀ (m : Nat) (x1 : Int32) (M : z_Mem), 2 * (400 - (z_fi M 1606 (n + 40)).toInt).toNat + (if x1 = 0 then 0 else 1) < m → rf_J n t s q z M0 M → P_X12_sendsAll_44 (n + 40) Post m x1 M := by
  have T400 : (400 : Int32).toInt = 400 := rfl
  intro m
  induction m with
  | zero => intro x1 M h; exact absurd h (Nat.not_lt_zero _)
  | succ m ih =>
    intro x1 M hm J
    refine And.intro (fun _ => k _ J) (fun c => ?_)
    rw [if_neg c] at hm
    have h0 : ∀ M1, rf_J n t s q z M0 M1 → P_X12_sendsAll_44 (n + 40) Post m 0 M1 := fun M1 J1 => by
      cases m with
      | zero => omega
      | succ m' => exact And.intro (fun _ => k _ J1) (fun h => absurd rfl h)
    have f84 : ∀ (y : Int32) M1, rf_J n t s q z M0 M1 → P_X12_sendsAll_84 (n + 40) Post (fun q0 qM => P_X12_sendsAll_44 (n + 40) Post m q0 qM) y M1 := fun y M1 J1 => And.intro (fun _ => h0 M1 J1) (fun h => absurd rfl h)
    have f66 : ∀ y : Int32, (y.toInt = -1 ∨ (0 ≤ y.toInt ∧ y.toInt ≤ 1)) → (¬ y = -1 → (z_fi M 1606 (n + 40)).toInt < 400) → P_X12_sendsAll_66 (n + 40) Post (fun q0 qM => P_X12_sendsAll_44 (n + 40) Post m q0 qM) y M := fun y hy hl => by
      refine And.intro (fun _ => f84 y M J) (fun c2 => ?_)
      have c2' := i_ne c2 rfl (show (-1 : Int32).toInt = -1 from rfl)
      have hy' : 0 ≤ y.toInt ∧ y.toInt ≤ 1 := by omega
      have hl' := hl c2
      refine t_X12_sendsNext J hy' hl' rfl (fun r M1 hr J1 => And.intro (fun e => f84 y M1 J1) (fun e => ?_))
      have hr' := hr e
      refine And.intro (fun h => absurd h (by decide)) (fun _ => z_nn_of (s_1628_40 J1.1) (And.intro (vp_of (L := 2) (s_l105 J1.1) (by omega) (by omega)) (And.intro (vp_of (L := 2) (s_l105 J1.1) (by omega) (by omega)) ?_)))
      intro M6 e6
      have f6 : z_fi M6 = z_fi M1 := by rw [e6]; rfl
      exact ih 1 M6 (by rw [f6, hr', if_neg (by decide)]; omega) (w_sai J1 e6 (by decide +kernel))
    refine And.intro (fun _ => f66 (-1) (Or.inl rfl) (fun h => absurd rfl h)) (fun c3 => ?_)
    have c3' := i_nle c3 T400 rfl
    exact t_X12_nextPath J (fun r hr => f66 r hr (fun _ => by omega))
theorem t_X12_sendsAll {Post : z_Mem → Prop} (J : rf_J n t s q z M0 M) (k : ∀ M1, rf_J n t s q z M0 M1 → Post M1) : P_X12_sendsAll (n + 40) M Post := by
  refine z_nn_of (s_1628_40 J.1) (And.intro (vp_of (L := 2) (s_l105 J.1) (by decide) (by decide)) ?_)
  intro M18 e18
  have J18 := w_sai J e18 (by decide +kernel)
  refine z_nn_of (s_1628_40 J18.1) (And.intro (vp_of (L := 2) (s_l105 J18.1) (by decide) (by decide)) ?_)
  intro M22 e22
  have J22 := w_sai J18 e22 (by decide +kernel)
  have f43 : ∀ v, P_X12_sendsAll_43 (n + 40) Post v M22 := fun v => ⟨_, t_sa44 k _ v M22 (Nat.lt_succ_self _) J22⟩
  exact And.intro (fun _ => f43 1) (fun _ => And.intro (fun _ => And.intro (fun _ => f43 0) (fun _ => f43 1)) (fun _ => f43 0))
end RFZ
