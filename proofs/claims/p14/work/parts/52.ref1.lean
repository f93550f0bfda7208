/-! ===== THE REFERENCE, method by method ===== -/
theorem t_X12_answers {n t s q z : Nat} {M0 : z_Mem} {p1 : Int32} {p2 : Int32} {p3 : Int32} {M : z_Mem} {Post : z_Mem → Prop} (J : rf_J n t (s + 1) q z M0 M) (h_p1 : 0 ≤ p1.toInt ∧ p1.toInt ≤ 1) (h_p3 : 0 ≤ p3.toInt ∧ p3.toInt ≤ 3599) (k : ∀ M1, (z_fi M1 1562 (n + 40) = z_fi M 1562 (n + 40)) → rf_J n t s q z M0 M1 → Post M1) : P_X12_answers (n + 40) p1 p2 p3 M Post := by
  have T0 : (0 : Int32).toInt = 0 := rfl; have T1 : (1 : Int32).toInt = 1 := rfl; have T2 : (2 : Int32).toInt = 2 := rfl; have T10 : (10 : Int32).toInt = 10 := rfl
  refine z_nn_of (s_1541_40 J.1) ?_
  refine And.intro (by exact vp_of (L := 2) (s_l45 J.1) (by omega) (by omega)) ?_
  refine And.intro (fun c1 => ?_) (fun c1 => ?_)
  · have d2 : ((z_ai M (n + 45) (p1 : Int32).toNatClampNeg)).toInt = 0 := i_eq c1 rfl (show (0 : Int32).toInt = 0 from rfl)
    refine z_nn_of (s_1543_40 J.1) ?_
    refine And.intro (by exact vp_of (L := 2) (s_l47 J.1) (by omega) (by omega)) ?_
    refine And.intro (fun c3 => ?_) (fun c3 => ?_)
    · have d4 : ((z_ai M (n + 47) (p1 : Int32).toNatClampNeg)).toInt ≤ 0 := i_le c3 rfl (show (0 : Int32).toInt = 0 from rfl)
      refine z_nn_of (s_1555_40 J.1) ?_
      refine And.intro (by have b5 := rf_ans J; exact vp_of (L := 3600) (s_l57 J.1) (by omega) (by omega)) ?_
      intro M_13 e_M_13
      have J_M_13 := w_sai J e_M_13 (by decide +kernel)
      refine z_nn_of (s_1556_40 J_M_13.1) ?_
      refine And.intro (by have b6 := rf_ans J_M_13; exact vp_of (L := 3600) (s_l58 J_M_13.1) (by omega) (by omega)) ?_
      intro M_18 e_M_18
      have J_M_18 := w_58 J_M_13 e_M_18 (by omega) (by omega)
      refine z_nn_of (s_1557_40 J_M_18.1) ?_
      refine And.intro (by have b7 := rf_ans J_M_18; exact vp_of (L := 3600) (s_l59 J_M_18.1) (by omega) (by omega)) ?_
      intro M_23 e_M_23
      have J_M_23 := w_59 J_M_18 e_M_23 (by omega) (by omega)
      refine z_nn_of (s_1537_40 J_M_23.1) ?_
      refine And.intro (by exact vp_of (L := 2) (s_l41 J_M_23.1) (by omega) (by omega)) ?_
      refine z_nn_of (s_1558_40 J_M_23.1) ?_
      refine And.intro (by have b8 := rf_ans J_M_23; exact vp_of (L := 3600) (s_l60 J_M_23.1) (by omega) (by omega)) ?_
      intro M_32 e_M_32
      have J_M_32 := w_sai J_M_23 e_M_32 (by decide +kernel)
      intro M_34 e_M_34
      have b9 := rf_ans J_M_32
      have J_M_34 := w_1559 J_M_32 e_M_34 (show (((z_fi M_32 1559 (n + 40)) + 1) : Int32).toInt = (((z_fi M_32 1559 (n + 40))).toInt + 1) from i_addE rfl (show (1 : Int32).toInt = 1 from rfl) (by omega) (by omega))
      exact k _ (by subst_vars; rfl) (rf_w J_M_34 (by omega) (by omega) (by omega) (by omega))
    · have d10 : ¬ ((z_ai M (n + 47) (p1 : Int32).toNatClampNeg)).toInt ≤ 0 := i_nle c3 rfl (show (0 : Int32).toInt = 0 from rfl)
      refine z_nn_of (s_1543_40 J.1) ?_
      refine And.intro (by exact vp_of (L := 2) (s_l47 J.1) (by omega) (by omega)) ?_
      refine And.intro (by exact vp_of (L := 2) (s_l47 J.1) (by omega) (by omega)) ?_
      intro M_39 e_M_39
      have J_M_39 := w_sai J e_M_39 (by decide +kernel)
      exact k _ (by subst_vars; rfl) (rf_w J_M_39 (by omega) (by omega) (by omega) (by omega))
  · have d11 : ¬ ((z_ai M (n + 45) (p1 : Int32).toNatClampNeg)).toInt = 0 := i_ne c1 rfl (show (0 : Int32).toInt = 0 from rfl)
    exact k _ (by subst_vars; rfl) (rf_w J (by omega) (by omega) (by omega) (by omega))
theorem t_X12_hears_124 {n t s q z : Nat} {M0 : z_Mem} {Post : z_Mem → Prop} {x1 : Int32} {M : z_Mem} (J : rf_J n t (s + 1) q z M0 M) (h_x1 : 0 ≤ x1.toInt ∧ x1.toInt ≤ 1) (k : ∀ M1, rf_J n t s q z M0 M1 → Post M1) : P_X12_hears_124 (n + 40) Post x1 M := by
  have T0 : (0 : Int32).toInt = 0 := rfl; have T1 : (1 : Int32).toInt = 1 := rfl; have T2 : (2 : Int32).toInt = 2 := rfl; have T10 : (10 : Int32).toInt = 10 := rfl
  refine And.intro (fun c1 => ?_) (fun c1 => ?_)
  · have d2 : ((z_fi M 1564 (n + 40))).toInt = 0 := i_eq c1 rfl (show (0 : Int32).toInt = 0 from rfl)
    refine t_X12_answers J (by omega) (by rw [(show (0 : Int32).toInt = 0 from rfl)]; omega) (fun M_3 p0_M_3 J_M_3 => ?_)
    exact k _ (rf_w J_M_3 (by omega) (by omega) (by omega) (by omega))
  · have d3 : ¬ ((z_fi M 1564 (n + 40))).toInt = 0 := i_ne c1 rfl (show (0 : Int32).toInt = 0 from rfl)
    refine t_X12_answers J (by omega) (by rw [(show (1 : Int32).toInt = 1 from rfl)]; omega) (fun M_4 p0_M_4 J_M_4 => ?_)
    exact k _ (rf_w J_M_4 (by omega) (by omega) (by omega) (by omega))
theorem t_X12_isByKey {n t s q z : Nat} {M0 : z_Mem} {p1 : Int32} {M : z_Mem} {Post : Int32 → z_Mem → Prop} (J : rf_J n t s q z M0 M) (k : ∀ r, Post r M) : P_X12_isByKey (n + 40) p1 M Post := by
  have T0 : (0 : Int32).toInt = 0 := rfl; have T1 : (1 : Int32).toInt = 1 := rfl; have T2 : (2 : Int32).toInt = 2 := rfl; have T10 : (10 : Int32).toInt = 10 := rfl
  refine And.intro (fun c1 => ?_) (fun c1 => ?_)
  · have d2 : (p1).toInt = ((z_fi M 1566 (n + 40))).toInt := i_eq c1 rfl rfl
    exact k _
  · have d3 : ¬ (p1).toInt = ((z_fi M 1566 (n + 40))).toInt := i_ne c1 rfl rfl
    refine And.intro (fun c4 => ?_) (fun c4 => ?_)
    · have d5 : (p1).toInt = ((z_fi M 1567 (n + 40))).toInt := i_eq c4 rfl rfl
      refine And.intro (fun c6 => ?_) (fun c6 => ?_)
      · exact k _
      · exact k _
    · have d7 : ¬ (p1).toInt = ((z_fi M 1567 (n + 40))).toInt := i_ne c4 rfl rfl
      exact k _
theorem t_X12_measures {n t s q z : Nat} {M0 : z_Mem} {p1 : Int32} {p2 : Int32} {M : z_Mem} {Post : z_Mem → Prop} (J : rf_J n t s q z M0 M) (h_p1 : 0 ≤ p1.toInt ∧ p1.toInt ≤ 1) (h_p2 : 0 ≤ p2.toInt ∧ p2.toInt ≤ 2000) (k : ∀ M1, rf_J n t s q z M0 M1 → Post M1) : P_X12_measures (n + 40) p1 p2 M Post := by
  have T0 : (0 : Int32).toInt = 0 := rfl; have T1 : (1 : Int32).toInt = 1 := rfl; have T2 : (2 : Int32).toInt = 2 := rfl; have T10 : (10 : Int32).toInt = 10 := rfl
  refine z_nn_of (s_1613_40 J.1) ?_
  refine And.intro (by exact vp_of (L := 2) (s_l90 J.1) (by omega) (by omega)) ?_
  intro M_29 e_M_29
  have J_M_29 := w_sai J e_M_29 (by decide +kernel)
  refine z_nn_of (s_1614_40 J_M_29.1) ?_
  refine And.intro (by exact vp_of (L := 2) (s_l91 J_M_29.1) (by omega) (by omega)) ?_
  refine And.intro (fun c1 => ?_) (fun c1 => ?_)
  · have d2 : ((z_ai M_29 (n + 91) (p1 : Int32).toNatClampNeg)).toInt = 0 := i_eq c1 rfl (show (0 : Int32).toInt = 0 from rfl)
    refine z_nn_of (s_1614_40 J_M_29.1) ?_
    refine And.intro (by exact vp_of (L := 2) (s_l91 J_M_29.1) (by omega) (by omega)) ?_
    intro M_45 e_M_45
    have J_M_45 := w_sai J_M_29 e_M_45 (by decide +kernel)
    refine z_nn_of (s_1610_40 J_M_45.1) ?_
    refine And.intro (by exact vp_of (L := 2) (s_l87 J_M_45.1) (by omega) (by omega)) ?_
    intro M_49 e_M_49
    have J_M_49 := w_sai J_M_45 e_M_49 (by decide +kernel)
    refine z_nn_of (s_1611_40 J_M_49.1) ?_
    refine And.intro (by exact vp_of (L := 2) (s_l88 J_M_49.1) (by omega) (by omega)) ?_
    intro M_53 e_M_53
    have J_M_53 := w_sai J_M_49 e_M_53 (by decide +kernel)
    refine z_nn_of (s_1612_40 J_M_53.1) ?_
    refine And.intro (by exact vp_of (L := 2) (s_l89 J_M_53.1) (by omega) (by omega)) ?_
    intro M_57 e_M_57
    have J_M_57 := w_89 J_M_53 e_M_57 (by omega) (by omega)
    exact k _ (rf_w J_M_57 (by omega) (by omega) (by omega) (by omega))
  · have d3 : ¬ ((z_ai M_29 (n + 91) (p1 : Int32).toNatClampNeg)).toInt = 0 := i_ne c1 rfl (show (0 : Int32).toInt = 0 from rfl)
    refine z_nn_of (s_1612_40 J_M_29.1) ?_
    refine And.intro (by exact vp_of (L := 2) (s_l89 J_M_29.1) (by omega) (by omega)) ?_
    refine And.intro (fun c4 => ?_) (fun c4 => ?_)
    · have b5 := a_89 J_M_29 (p1 : Int32).toNatClampNeg
      have d6 : ((z_ai M_29 (n + 89) (p1 : Int32).toNatClampNeg)).toInt ≤ (p2).toInt := i_le c4 rfl rfl
      refine z_nn_of (s_1612_40 J_M_29.1) ?_
      refine And.intro (by exact vp_of (L := 2) (s_l89 J_M_29.1) (by omega) (by omega)) ?_
      refine z_nn_of (s_1612_40 J_M_29.1) ?_
      refine And.intro (by exact vp_of (L := 2) (s_l89 J_M_29.1) (by omega) (by omega)) ?_
      intro M_17w1 e_M_17w1
      have J_M_17w1 := w_89 J_M_29 e_M_17w1 (by have b7 := a_89 J_M_29 (p1 : Int32).toNatClampNeg; omega) (by have b7 := a_89 J_M_29 (p1 : Int32).toNatClampNeg; omega)
      refine z_nn_of (s_1610_40 J_M_17w1.1) ?_
      refine And.intro (by exact vp_of (L := 2) (s_l87 J_M_17w1.1) (by omega) (by omega)) ?_
      intro x_21w1 e_x_21w1
      refine z_nn_of (s_1611_40 J_M_17w1.1) ?_
      refine And.intro (by exact vp_of (L := 2) (s_l88 J_M_17w1.1) (by omega) (by omega)) ?_
      refine And.intro (fun c8 => ?_) (fun c8 => ?_)
      · have d9 : 0 ≤ (x_21w1).toInt := i_le c8 (show (0 : Int32).toInt = 0 from rfl) rfl
        refine z_nn_of (s_1611_40 J_M_17w1.1) ?_
        refine And.intro (by exact vp_of (L := 2) (s_l88 J_M_17w1.1) (by omega) (by omega)) ?_
        refine z_nn_of (s_1611_40 J_M_17w1.1) ?_
        refine And.intro (by exact vp_of (L := 2) (s_l88 J_M_17w1.1) (by omega) (by omega)) ?_
        intro M_6w2 e_M_6w2
        have J_M_6w2 := w_sai J_M_17w1 e_M_6w2 (by decide +kernel)
        refine z_nn_of (s_1610_40 J_M_6w2.1) ?_
        refine And.intro (by exact vp_of (L := 2) (s_l87 J_M_6w2.1) (by omega) (by omega)) ?_
        refine z_nn_of (s_1610_40 J_M_6w2.1) ?_
        refine And.intro (by exact vp_of (L := 2) (s_l87 J_M_6w2.1) (by omega) (by omega)) ?_
        refine And.intro (by exact vp_of (L := 2) (s_l87 J_M_6w2.1) (by omega) (by omega)) ?_
        intro M_14w2 e_M_14w2
        have J_M_14w2 := w_sai J_M_6w2 e_M_14w2 (by decide +kernel)
        exact k _ (rf_w J_M_14w2 (by omega) (by omega) (by omega) (by omega))
      · have d10 : ¬ 0 ≤ (x_21w1).toInt := i_nle c8 (show (0 : Int32).toInt = 0 from rfl) rfl
        refine z_nn_of (s_1611_40 J_M_17w1.1) ?_
        refine And.intro (by exact vp_of (L := 2) (s_l88 J_M_17w1.1) (by omega) (by omega)) ?_
        refine z_nn_of (s_1611_40 J_M_17w1.1) ?_
        refine And.intro (by exact vp_of (L := 2) (s_l88 J_M_17w1.1) (by omega) (by omega)) ?_
        intro M_6w3 e_M_6w3
        have J_M_6w3 := w_sai J_M_17w1 e_M_6w3 (by decide +kernel)
        refine z_nn_of (s_1610_40 J_M_6w3.1) ?_
        refine And.intro (by exact vp_of (L := 2) (s_l87 J_M_6w3.1) (by omega) (by omega)) ?_
        refine z_nn_of (s_1610_40 J_M_6w3.1) ?_
        refine And.intro (by exact vp_of (L := 2) (s_l87 J_M_6w3.1) (by omega) (by omega)) ?_
        refine And.intro (by exact vp_of (L := 2) (s_l87 J_M_6w3.1) (by omega) (by omega)) ?_
        intro M_14w3 e_M_14w3
        have J_M_14w3 := w_sai J_M_6w3 e_M_14w3 (by decide +kernel)
        exact k _ (rf_w J_M_14w3 (by omega) (by omega) (by omega) (by omega))
    · have b11 := a_89 J_M_29 (p1 : Int32).toNatClampNeg
      have d12 : ¬ ((z_ai M_29 (n + 89) (p1 : Int32).toNatClampNeg)).toInt ≤ (p2).toInt := i_nle c4 rfl rfl
      refine z_nn_of (s_1612_40 J_M_29.1) ?_
      refine And.intro (by exact vp_of (L := 2) (s_l89 J_M_29.1) (by omega) (by omega)) ?_
      intro M_17w4 e_M_17w4
      have J_M_17w4 := w_89 J_M_29 e_M_17w4 (by omega) (by omega)
      refine z_nn_of (s_1610_40 J_M_17w4.1) ?_
      refine And.intro (by exact vp_of (L := 2) (s_l87 J_M_17w4.1) (by omega) (by omega)) ?_
      intro x_21w4 e_x_21w4
      refine z_nn_of (s_1611_40 J_M_17w4.1) ?_
      refine And.intro (by exact vp_of (L := 2) (s_l88 J_M_17w4.1) (by omega) (by omega)) ?_
      refine And.intro (fun c13 => ?_) (fun c13 => ?_)
      · have d14 : 0 ≤ (x_21w4).toInt := i_le c13 (show (0 : Int32).toInt = 0 from rfl) rfl
        refine z_nn_of (s_1611_40 J_M_17w4.1) ?_
        refine And.intro (by exact vp_of (L := 2) (s_l88 J_M_17w4.1) (by omega) (by omega)) ?_
        refine z_nn_of (s_1611_40 J_M_17w4.1) ?_
        refine And.intro (by exact vp_of (L := 2) (s_l88 J_M_17w4.1) (by omega) (by omega)) ?_
        intro M_6w5 e_M_6w5
        have J_M_6w5 := w_sai J_M_17w4 e_M_6w5 (by decide +kernel)
        refine z_nn_of (s_1610_40 J_M_6w5.1) ?_
        refine And.intro (by exact vp_of (L := 2) (s_l87 J_M_6w5.1) (by omega) (by omega)) ?_
        refine z_nn_of (s_1610_40 J_M_6w5.1) ?_
        refine And.intro (by exact vp_of (L := 2) (s_l87 J_M_6w5.1) (by omega) (by omega)) ?_
        refine And.intro (by exact vp_of (L := 2) (s_l87 J_M_6w5.1) (by omega) (by omega)) ?_
        intro M_14w5 e_M_14w5
        have J_M_14w5 := w_sai J_M_6w5 e_M_14w5 (by decide +kernel)
        exact k _ (rf_w J_M_14w5 (by omega) (by omega) (by omega) (by omega))
      · have d15 : ¬ 0 ≤ (x_21w4).toInt := i_nle c13 (show (0 : Int32).toInt = 0 from rfl) rfl
        refine z_nn_of (s_1611_40 J_M_17w4.1) ?_
        refine And.intro (by exact vp_of (L := 2) (s_l88 J_M_17w4.1) (by omega) (by omega)) ?_
        refine z_nn_of (s_1611_40 J_M_17w4.1) ?_
        refine And.intro (by exact vp_of (L := 2) (s_l88 J_M_17w4.1) (by omega) (by omega)) ?_
        intro M_6w6 e_M_6w6
        have J_M_6w6 := w_sai J_M_17w4 e_M_6w6 (by decide +kernel)
        refine z_nn_of (s_1610_40 J_M_6w6.1) ?_
        refine And.intro (by exact vp_of (L := 2) (s_l87 J_M_6w6.1) (by omega) (by omega)) ?_
        refine z_nn_of (s_1610_40 J_M_6w6.1) ?_
        refine And.intro (by exact vp_of (L := 2) (s_l87 J_M_6w6.1) (by omega) (by omega)) ?_
        refine And.intro (by exact vp_of (L := 2) (s_l87 J_M_6w6.1) (by omega) (by omega)) ?_
        intro M_14w6 e_M_14w6
        have J_M_14w6 := w_sai J_M_6w6 e_M_14w6 (by decide +kernel)
        exact k _ (rf_w J_M_14w6 (by omega) (by omega) (by omega) (by omega))
theorem t_X12_inFlight_4 {n t s q z : Nat} {M0 M : z_Mem} {Post : Int32 → z_Mem → Prop} (J : rf_J n t s q z M0 M) (k : ∀ r, Post r M) : ∀ (m : Nat) (x1 : Int32) (x2 : Int32) (x3 : Int32), (400 - x3.toInt).toNat < m → 0 ≤ x3.toInt → P_X12_inFlight_4 (n + 40) Post m x1 x2 x3 M := by
  have T0 : (0 : Int32).toInt = 0 := rfl; have T1 : (1 : Int32).toInt = 1 := rfl; have T2 : (2 : Int32).toInt = 2 := rfl; have T10 : (10 : Int32).toInt = 10 := rfl
  intro m
  induction m with
  | zero => intro x1 x2 x3 h; omega
  | succ m ih =>
    intro x1 x2 x3 hm f0
    refine And.intro (fun c1 => ?_) (fun c1 => ?_)
    · have b2 := f_1606 J
      have d3 : ((z_fi M 1606 (n + 40))).toInt ≤ (x3).toInt := i_le c1 rfl rfl
      exact k _
    · have b4 := f_1606 J
      have d5 : ¬ ((z_fi M 1606 (n + 40))).toInt ≤ (x3).toInt := i_nle c1 rfl rfl
      refine z_nn_of (s_1593_40 J.1) ?_
      refine And.intro (by exact vp_of (L := 400) (s_l71 J.1) (by omega) (by omega)) ?_
      refine And.intro (fun c6 => ?_) (fun c6 => ?_)
      · have b7 := a_71 J (x3 : Int32).toNatClampNeg
        have d8 : ((z_ai M (n + 71) (x3 : Int32).toNatClampNeg)).toInt = (x1).toInt := i_eq c6 rfl rfl
        refine z_nn_of (s_1598_40 J.1) ?_
        refine And.intro (by exact vp_of (L := 400) (s_l76 J.1) (by omega) (by omega)) ?_
        refine And.intro (fun c9 => ?_) (fun c9 => ?_)
        · have d10 : ((z_ai M (n + 76) (x3 : Int32).toNatClampNeg)).toInt = 0 := i_eq c9 rfl (show (0 : Int32).toInt = 0 from rfl)
          intro x_1w1 e_x_1w1
          intro x_2w1 e_x_2w1
          have t_x_2w1 : x_2w1.toInt = ((x3).toInt + 1) := by rw [e_x_2w1]; exact (show ((x3 + 1) : Int32).toInt = ((x3).toInt + 1) from i_addE rfl (show (1 : Int32).toInt = 1 from rfl) (by omega) (by omega))
          exact ih _ _ _ (by omega) (by omega)
        · have d11 : ¬ ((z_ai M (n + 76) (x3 : Int32).toNatClampNeg)).toInt = 0 := i_ne c9 rfl (show (0 : Int32).toInt = 0 from rfl)
          intro x_1w3 e_x_1w3
          intro x_2w3 e_x_2w3
          have t_x_2w3 : x_2w3.toInt = ((x3).toInt + 1) := by rw [e_x_2w3]; exact (show ((x3 + 1) : Int32).toInt = ((x3).toInt + 1) from i_addE rfl (show (1 : Int32).toInt = 1 from rfl) (by omega) (by omega))
          exact ih _ _ _ (by omega) (by omega)
      · have b12 := a_71 J (x3 : Int32).toNatClampNeg
        have d13 : ¬ ((z_ai M (n + 71) (x3 : Int32).toNatClampNeg)).toInt = (x1).toInt := i_ne c6 rfl rfl
        intro x_1w5 e_x_1w5
        intro x_2w5 e_x_2w5
        have t_x_2w5 : x_2w5.toInt = ((x3).toInt + 1) := by rw [e_x_2w5]; exact (show ((x3 + 1) : Int32).toInt = ((x3).toInt + 1) from i_addE rfl (show (1 : Int32).toInt = 1 from rfl) (by omega) (by omega))
        exact ih _ _ _ (by omega) (by omega)
theorem t_X12_inFlight {n t s q z : Nat} {M0 : z_Mem} {p1 : Int32} {M : z_Mem} {Post : Int32 → z_Mem → Prop} (J : rf_J n t s q z M0 M) (k : ∀ r, Post r M) : P_X12_inFlight (n + 40) p1 M Post := by
  have T0 : (0 : Int32).toInt = 0 := rfl; have T1 : (1 : Int32).toInt = 1 := rfl; have T2 : (2 : Int32).toInt = 2 := rfl; have T10 : (10 : Int32).toInt = 10 := rfl
  exact ⟨_, t_X12_inFlight_4 J k _ _ _ _ (Nat.lt_succ_self _) (by decide)⟩
theorem t_X12_lands_9 {n t s q z : Nat} {M0 : z_Mem} {Post : z_Mem → Prop} (k : ∀ M1, rf_J n t s q z M0 M1 → Post M1) : ∀ (m : Nat) (x1 : Int32) (x3 : Int32) (M : z_Mem), (200 - x3.toInt).toNat < m → 0 ≤ x1.toInt → x1.toInt ≤ 399 → 0 ≤ x3.toInt → rf_J n t s q z M0 M → P_X12_lands_9 (n + 40) Post m x1 x3 M := by
  have T0 : (0 : Int32).toInt = 0 := rfl; have T1 : (1 : Int32).toInt = 1 := rfl; have T2 : (2 : Int32).toInt = 2 := rfl; have T10 : (10 : Int32).toInt = 10 := rfl
  intro m
  induction m with
  | zero => intro x1 x3 M h; omega
  | succ m ih =>
    intro x1 x3 M hm f0 f1 f2 J
    refine z_nn_of (s_1597_40 J.1) ?_
    refine And.intro (by exact vp_of (L := 400) (s_l75 J.1) (by omega) (by omega)) ?_
    refine And.intro (fun c1 => ?_) (fun c1 => ?_)
    · have b2 := a_75 J (x1 : Int32).toNatClampNeg
      have d3 : ((z_ai M (n + 75) (x1 : Int32).toNatClampNeg)).toInt ≤ (x3).toInt := i_le c1 rfl rfl
      exact k _ (rf_w J (by omega) (by omega) (by omega) (by omega))
    · have b4 := a_75 J (x1 : Int32).toNatClampNeg
      have d5 : ¬ ((z_ai M (n + 75) (x1 : Int32).toNatClampNeg)).toInt ≤ (x3).toInt := i_nle c1 rfl rfl
      refine z_nn_of (s_1595_40 J.1) ?_
      refine And.intro (by exact vp_of (L := 400) (s_l73 J.1) (by omega) (by omega)) ?_
      refine z_nn_of (s_1596_40 J.1) ?_
      refine And.intro (by exact vp_of (L := 400) (s_l74 J.1) (by omega) (by omega)) ?_
      refine z_nn_of (s_1592_40 J.1) ?_
      refine And.intro (by have b6 := a_73 J (x1 : Int32).toNatClampNeg; have b7 := a_74 J (x1 : Int32).toNatClampNeg; have fm := rf_fm J (x1 : Int32).toNatClampNeg; exact vp_of (L := 800) (s_l70 J.1) (by rw [(show ((((200 * (z_ai M (n + 73) (x1 : Int32).toNatClampNeg)) + (z_ai M (n + 74) (x1 : Int32).toNatClampNeg)) + x3) : Int32).toInt = (((200 * ((z_ai M (n + 73) (x1 : Int32).toNatClampNeg)).toInt) + ((z_ai M (n + 74) (x1 : Int32).toNatClampNeg)).toInt) + (x3).toInt) from i_addE (show (((200 * (z_ai M (n + 73) (x1 : Int32).toNatClampNeg)) + (z_ai M (n + 74) (x1 : Int32).toNatClampNeg)) : Int32).toInt = ((200 * ((z_ai M (n + 73) (x1 : Int32).toNatClampNeg)).toInt) + ((z_ai M (n + 74) (x1 : Int32).toNatClampNeg)).toInt) from i_addE (show ((200 * (z_ai M (n + 73) (x1 : Int32).toNatClampNeg)) : Int32).toInt = (200 * ((z_ai M (n + 73) (x1 : Int32).toNatClampNeg)).toInt) from i_mulE (show (200 : Int32).toInt = 200 from rfl) rfl (by omega) (by omega)) rfl (by omega) (by omega)) rfl (by omega) (by omega))]; omega) (by rw [(show ((((200 * (z_ai M (n + 73) (x1 : Int32).toNatClampNeg)) + (z_ai M (n + 74) (x1 : Int32).toNatClampNeg)) + x3) : Int32).toInt = (((200 * ((z_ai M (n + 73) (x1 : Int32).toNatClampNeg)).toInt) + ((z_ai M (n + 74) (x1 : Int32).toNatClampNeg)).toInt) + (x3).toInt) from i_addE (show (((200 * (z_ai M (n + 73) (x1 : Int32).toNatClampNeg)) + (z_ai M (n + 74) (x1 : Int32).toNatClampNeg)) : Int32).toInt = ((200 * ((z_ai M (n + 73) (x1 : Int32).toNatClampNeg)).toInt) + ((z_ai M (n + 74) (x1 : Int32).toNatClampNeg)).toInt) from i_addE (show ((200 * (z_ai M (n + 73) (x1 : Int32).toNatClampNeg)) : Int32).toInt = (200 * ((z_ai M (n + 73) (x1 : Int32).toNatClampNeg)).toInt) from i_mulE (show (200 : Int32).toInt = 200 from rfl) rfl (by omega) (by omega)) rfl (by omega) (by omega)) rfl (by omega) (by omega))]; omega)) ?_
      refine And.intro (by have b8 := a_73 J (x1 : Int32).toNatClampNeg; have b9 := a_74 J (x1 : Int32).toNatClampNeg; have fm := rf_fm J (x1 : Int32).toNatClampNeg; exact vp_of (L := 800) (s_l70 J.1) (by rw [(show ((((200 * (z_ai M (n + 73) (x1 : Int32).toNatClampNeg)) + (z_ai M (n + 74) (x1 : Int32).toNatClampNeg)) + x3) : Int32).toInt = (((200 * ((z_ai M (n + 73) (x1 : Int32).toNatClampNeg)).toInt) + ((z_ai M (n + 74) (x1 : Int32).toNatClampNeg)).toInt) + (x3).toInt) from i_addE (show (((200 * (z_ai M (n + 73) (x1 : Int32).toNatClampNeg)) + (z_ai M (n + 74) (x1 : Int32).toNatClampNeg)) : Int32).toInt = ((200 * ((z_ai M (n + 73) (x1 : Int32).toNatClampNeg)).toInt) + ((z_ai M (n + 74) (x1 : Int32).toNatClampNeg)).toInt) from i_addE (show ((200 * (z_ai M (n + 73) (x1 : Int32).toNatClampNeg)) : Int32).toInt = (200 * ((z_ai M (n + 73) (x1 : Int32).toNatClampNeg)).toInt) from i_mulE (show (200 : Int32).toInt = 200 from rfl) rfl (by omega) (by omega)) rfl (by omega) (by omega)) rfl (by omega) (by omega))]; omega) (by rw [(show ((((200 * (z_ai M (n + 73) (x1 : Int32).toNatClampNeg)) + (z_ai M (n + 74) (x1 : Int32).toNatClampNeg)) + x3) : Int32).toInt = (((200 * ((z_ai M (n + 73) (x1 : Int32).toNatClampNeg)).toInt) + ((z_ai M (n + 74) (x1 : Int32).toNatClampNeg)).toInt) + (x3).toInt) from i_addE (show (((200 * (z_ai M (n + 73) (x1 : Int32).toNatClampNeg)) + (z_ai M (n + 74) (x1 : Int32).toNatClampNeg)) : Int32).toInt = ((200 * ((z_ai M (n + 73) (x1 : Int32).toNatClampNeg)).toInt) + ((z_ai M (n + 74) (x1 : Int32).toNatClampNeg)).toInt) from i_addE (show ((200 * (z_ai M (n + 73) (x1 : Int32).toNatClampNeg)) : Int32).toInt = (200 * ((z_ai M (n + 73) (x1 : Int32).toNatClampNeg)).toInt) from i_mulE (show (200 : Int32).toInt = 200 from rfl) rfl (by omega) (by omega)) rfl (by omega) (by omega)) rfl (by omega) (by omega))]; omega)) ?_
      intro M_15 e_M_15
      have J_M_15 := w_sai J e_M_15 (by decide +kernel)
      intro x_16 e_x_16
      have t_x_16 : x_16.toInt = ((x3).toInt + 1) := by rw [e_x_16]; exact (show ((x3 + 1) : Int32).toInt = ((x3).toInt + 1) from i_addE rfl (show (1 : Int32).toInt = 1 from rfl) (by omega) (by omega))
      exact ih _ _ _ (by omega) (by omega) (by omega) (by omega) (rf_w J_M_15 (by omega) (by omega) (by omega) (by omega))
theorem t_X12_lands {n t s q z : Nat} {M0 : z_Mem} {p1 : Int32} {p2 : Int32} {M : z_Mem} {Post : z_Mem → Prop} (J : rf_J n t s q z M0 M) (h_p1 : 0 ≤ p1.toInt ∧ p1.toInt ≤ 399) (h0 : ¬ p2 = 0) (k : ∀ M1, rf_J n t s q z M0 M1 → Post M1) : P_X12_lands (n + 40) p1 p2 M Post := by
  have T0 : (0 : Int32).toInt = 0 := rfl; have T1 : (1 : Int32).toInt = 1 := rfl; have T2 : (2 : Int32).toInt = 2 := rfl; have T10 : (10 : Int32).toInt = 10 := rfl
  refine z_nn_of (s_1598_40 J.1) ?_
  refine And.intro (by exact vp_of (L := 400) (s_l76 J.1) (by omega) (by omega)) ?_
  intro M_20 e_M_20
  have J_M_20 := w_76 J e_M_20 h0
  exact ⟨_, t_X12_lands_9 k _ _ _ _ (Nat.lt_succ_self _) (by omega) (by omega) (by decide) (rf_w J_M_20 (by omega) (by omega) (by omega) (by omega))⟩
theorem t_X12_landsz {n t s q z : Nat} {M0 : z_Mem} {p1 : Int32} {p2 : Int32} {M : z_Mem} {Post : z_Mem → Prop} (J : rf_J n t s q z M0 M) (h_p1 : 0 ≤ p1.toInt ∧ p1.toInt ≤ 399) (h0 : ¬ p2 = 0) (h1 : z_ai M (n + 76) (p1).toNatClampNeg = 0) (k : ∀ M1, rf_J n t s q (z + 1) M0 M1 → Post M1) : P_X12_lands (n + 40) p1 p2 M Post := by
  have T0 : (0 : Int32).toInt = 0 := rfl; have T1 : (1 : Int32).toInt = 1 := rfl; have T2 : (2 : Int32).toInt = 2 := rfl; have T10 : (10 : Int32).toInt = 10 := rfl
  refine z_nn_of (s_1598_40 J.1) ?_
  refine And.intro (by exact vp_of (L := 400) (s_l76 J.1) (by omega) (by omega)) ?_
  intro M_20 e_M_20
  have J_M_20 := w_76z J e_M_20 h0 (i_natlt (by omega) (by omega)) h1
  exact ⟨_, t_X12_lands_9 k _ _ _ _ (Nat.lt_succ_self _) (by omega) (by omega) (by decide) (rf_w J_M_20 (by omega) (by omega) (by omega) (by omega))⟩
theorem t_X12_isLost {n t s q z : Nat} {M0 : z_Mem} {p1 : Int32} {p2 : Int32} {M : z_Mem} {Post : Int32 → z_Mem → Prop} (J : rf_J n t s q z M0 M) (h_p1 : 0 ≤ p1.toInt ∧ p1.toInt ≤ 3) (h_p2 : 0 ≤ p2.toInt ∧ p2.toInt ≤ 199) (k : ∀ r, Post r M) : P_X12_isLost (n + 40) p1 p2 M Post := by
  have T0 : (0 : Int32).toInt = 0 := rfl; have T1 : (1 : Int32).toInt = 1 := rfl; have T2 : (2 : Int32).toInt = 2 := rfl; have T10 : (10 : Int32).toInt = 10 := rfl
  refine z_nn_of (s_1587_40 J.1) ?_
  refine And.intro (by exact vp_of (L := 4) (s_l67 J.1) (by omega) (by omega)) ?_
  refine And.intro (fun c1 => ?_) (fun c1 => ?_)
  · have b2 := a_67 J (p1 : Int32).toNatClampNeg
    have d3 : ((z_ai M (n + 67) (p1 : Int32).toNatClampNeg)).toInt ≤ (p2).toInt := i_le c1 rfl rfl
    exact k _
  · have b4 := a_67 J (p1 : Int32).toNatClampNeg
    have d5 : ¬ ((z_ai M (n + 67) (p1 : Int32).toNatClampNeg)).toInt ≤ (p2).toInt := i_nle c1 rfl rfl
    refine z_nn_of (s_1591_40 J.1) ?_
    refine And.intro (by exact vp_of (L := 800) (s_l69 J.1) (by rw [(show (((200 * p1) + p2) : Int32).toInt = ((200 * (p1).toInt) + (p2).toInt) from i_addE (show ((200 * p1) : Int32).toInt = (200 * (p1).toInt) from i_mulE (show (200 : Int32).toInt = 200 from rfl) rfl (by omega) (by omega)) rfl (by omega) (by omega))]; omega) (by rw [(show (((200 * p1) + p2) : Int32).toInt = ((200 * (p1).toInt) + (p2).toInt) from i_addE (show ((200 * p1) : Int32).toInt = (200 * (p1).toInt) from i_mulE (show (200 : Int32).toInt = 200 from rfl) rfl (by omega) (by omega)) rfl (by omega) (by omega))]; omega)) ?_
    refine And.intro (fun c6 => ?_) (fun c6 => ?_)
    · have d7 : ((z_ai M (n + 69) (((200 * p1) + p2) : Int32).toNatClampNeg)).toInt = 0 := i_eq c6 rfl (show (0 : Int32).toInt = 0 from rfl)
      refine z_nn_of (s_1592_40 J.1) ?_
      refine And.intro (by exact vp_of (L := 800) (s_l70 J.1) (by rw [(show (((200 * p1) + p2) : Int32).toInt = ((200 * (p1).toInt) + (p2).toInt) from i_addE (show ((200 * p1) : Int32).toInt = (200 * (p1).toInt) from i_mulE (show (200 : Int32).toInt = 200 from rfl) rfl (by omega) (by omega)) rfl (by omega) (by omega))]; omega) (by rw [(show (((200 * p1) + p2) : Int32).toInt = ((200 * (p1).toInt) + (p2).toInt) from i_addE (show ((200 * p1) : Int32).toInt = (200 * (p1).toInt) from i_mulE (show (200 : Int32).toInt = 200 from rfl) rfl (by omega) (by omega)) rfl (by omega) (by omega))]; omega)) ?_
      refine And.intro (fun c8 => ?_) (fun c8 => ?_)
      · have d9 : ((z_ai M (n + 70) (((200 * p1) + p2) : Int32).toNatClampNeg)).toInt = 0 := i_eq c8 rfl (show (0 : Int32).toInt = 0 from rfl)
        exact k _
      · have d10 : ¬ ((z_ai M (n + 70) (((200 * p1) + p2) : Int32).toNatClampNeg)).toInt = 0 := i_ne c8 rfl (show (0 : Int32).toInt = 0 from rfl)
        exact k _
    · have d11 : ¬ ((z_ai M (n + 69) (((200 * p1) + p2) : Int32).toNatClampNeg)).toInt = 0 := i_ne c6 rfl (show (0 : Int32).toInt = 0 from rfl)
      exact k _
theorem t_X12_firstLost_2 {n t s q z : Nat} {M0 M : z_Mem} {Post : Int32 → z_Mem → Prop} (J : rf_J n t s q z M0 M) (k : ∀ r, (r.toInt = -1 ∨ (0 ≤ r.toInt ∧ r.toInt < 200)) → Post r M) : ∀ (m : Nat) (x1 : Int32) (x2 : Int32), (200 - x2.toInt).toNat < m → 0 ≤ x1.toInt → x1.toInt ≤ 3 → 0 ≤ x2.toInt → P_X12_firstLost_2 (n + 40) Post m x1 x2 M := by
  have T0 : (0 : Int32).toInt = 0 := rfl; have T1 : (1 : Int32).toInt = 1 := rfl; have T2 : (2 : Int32).toInt = 2 := rfl; have T10 : (10 : Int32).toInt = 10 := rfl
  intro m
  induction m with
  | zero => intro x1 x2 h; omega
  | succ m ih =>
    intro x1 x2 hm f0 f1 f2
    refine z_nn_of (s_1587_40 J.1) ?_
    refine And.intro (by exact vp_of (L := 4) (s_l67 J.1) (by omega) (by omega)) ?_
    refine And.intro (fun c1 => ?_) (fun c1 => ?_)
    · have b2 := a_67 J (x1 : Int32).toNatClampNeg
      have d3 : ((z_ai M (n + 67) (x1 : Int32).toNatClampNeg)).toInt ≤ (x2).toInt := i_le c1 rfl rfl
      exact k _ (by first | exact Or.inl rfl | omega)
    · have b4 := a_67 J (x1 : Int32).toNatClampNeg
      have d5 : ¬ ((z_ai M (n + 67) (x1 : Int32).toNatClampNeg)).toInt ≤ (x2).toInt := i_nle c1 rfl rfl
      refine t_X12_isLost J (by omega) (by omega) (fun x_5 => ?_)
      refine And.intro (fun c6 => ?_) (fun c6 => ?_)
      · have d7 : (x_5).toInt = 0 := i_eq c6 rfl (show (0 : Int32).toInt = 0 from rfl)
        intro x_7 e_x_7
        have t_x_7 : x_7.toInt = ((x2).toInt + 1) := by rw [e_x_7]; exact (show ((x2 + 1) : Int32).toInt = ((x2).toInt + 1) from i_addE rfl (show (1 : Int32).toInt = 1 from rfl) (by omega) (by omega))
        exact ih _ _ (by omega) (by omega) (by omega) (by omega)
      · have d8 : ¬ (x_5).toInt = 0 := i_ne c6 rfl (show (0 : Int32).toInt = 0 from rfl)
        exact k _ (by first | exact Or.inl rfl | omega)
theorem t_X12_firstLost {n t s q z : Nat} {M0 : z_Mem} {p1 : Int32} {M : z_Mem} {Post : Int32 → z_Mem → Prop} (J : rf_J n t s q z M0 M) (h_p1 : 0 ≤ p1.toInt ∧ p1.toInt ≤ 3) (k : ∀ r, (r.toInt = -1 ∨ (0 ≤ r.toInt ∧ r.toInt < 200)) → Post r M) : P_X12_firstLost (n + 40) p1 M Post := by
  have T0 : (0 : Int32).toInt = 0 := rfl; have T1 : (1 : Int32).toInt = 1 := rfl; have T2 : (2 : Int32).toInt = 2 := rfl; have T10 : (10 : Int32).toInt = 10 := rfl
  exact ⟨_, t_X12_firstLost_2 J k _ _ _ (Nat.lt_succ_self _) (by omega) (by omega) (by decide)⟩
theorem t_X12_sentInAll {n t s q z : Nat} {M0 : z_Mem} {M : z_Mem} {Post : Int32 → z_Mem → Prop} (J : rf_J n t s q z M0 M) (k : ∀ r, Post r M) : P_X12_sentInAll (n + 40) M Post := by
  have T0 : (0 : Int32).toInt = 0 := rfl; have T1 : (1 : Int32).toInt = 1 := rfl; have T2 : (2 : Int32).toInt = 2 := rfl; have T10 : (10 : Int32).toInt = 10 := rfl
  refine z_nn_of (s_1587_40 J.1) ?_
  refine And.intro (by exact vp_of (L := 4) (s_l67 J.1) (by rw [(show (0 : Int32).toInt = 0 from rfl)]; omega) (by rw [(show (0 : Int32).toInt = 0 from rfl)]; omega)) ?_
  refine z_nn_of (s_1587_40 J.1) ?_
  refine And.intro (by exact vp_of (L := 4) (s_l67 J.1) (by rw [(show (1 : Int32).toInt = 1 from rfl)]; omega) (by rw [(show (1 : Int32).toInt = 1 from rfl)]; omega)) ?_
  refine z_nn_of (s_1587_40 J.1) ?_
  refine And.intro (by exact vp_of (L := 4) (s_l67 J.1) (by rw [(show (2 : Int32).toInt = 2 from rfl)]; omega) (by rw [(show (2 : Int32).toInt = 2 from rfl)]; omega)) ?_
  refine z_nn_of (s_1587_40 J.1) ?_
  refine And.intro (by exact vp_of (L := 4) (s_l67 J.1) (by rw [(show (3 : Int32).toInt = 3 from rfl)]; omega) (by rw [(show (3 : Int32).toInt = 3 from rfl)]; omega)) ?_
  exact k _
