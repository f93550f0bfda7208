/-! ===== THE REFERENCE: arrivals, losses ===== -/
theorem t_X12_takes_194 {n t s q z : Nat} {M0 : z_Mem} {Post : z_Mem → Prop} {x1 : Int32} {t0 : Int32} {M : z_Mem} (J : rf_J n t (s + 1) (q + 1) z M0 M) (h_x1 : 0 ≤ x1.toInt ∧ x1.toInt ≤ 399) (h0 : 0 ≤ (z_fi M 1575 (n + 40)).toInt) (k : ∀ M1, (z_fi M1 1562 (n + 40) = z_fi M 1562 (n + 40)) → rf_J n t s q z M0 M1 → Post M1) : P_X12_takes_194 (n + 40) Post x1 t0 M := by
  have T0 : (0 : Int32).toInt = 0 := rfl; have T1 : (1 : Int32).toInt = 1 := rfl; have T2 : (2 : Int32).toInt = 2 := rfl; have T10 : (10 : Int32).toInt = 10 := rfl
  refine t_X12_max J (fun x_2 p0_x_2 p1_x_2 p2_x_2 => ?_)
  intro M_3 e_M_3
  have J_M_3 := w_sfi J e_M_3 (by decide +kernel)
  intro M_5 e_M_5
  have J_M_5 := w_sfi J_M_3 e_M_5 (by decide +kernel)
  refine z_nn_of (s_1601_40 J_M_5.1) ?_
  refine And.intro (by exact vp_of (L := 400) (s_l79 J_M_5.1) (by omega) (by omega)) ?_
  refine And.intro (fun c1 => ?_) (fun c1 => ?_)
  · have d2 : ((z_ai M_5 (n + 79) (x1 : Int32).toNatClampNeg)).toInt = 0 := i_eq c1 rfl (show (0 : Int32).toInt = 0 from rfl)
    refine And.intro (fun c3 => ?_) (fun c3 => ?_)
    · have d4 : (t0).toInt = 0 := i_eq c3 rfl (show (0 : Int32).toInt = 0 from rfl)
      refine t_X12_acknowledges J_M_5 (by subst_vars; exact h0) (fun M_12 p0_M_12 J_M_12 => ?_)
      exact k _ (by first | (subst_vars; rfl) | exact p0_M_12.trans (by subst_vars; rfl) | exact p0_M_17.trans (by subst_vars; rfl) | exact p0_M_10.trans (by subst_vars; rfl)) (rf_w J_M_12 (by omega) (by omega) (by omega) (by omega))
    · have d5 : ¬ (t0).toInt = 0 := i_ne c3 rfl (show (0 : Int32).toInt = 0 from rfl)
      refine And.intro (fun c6 => ?_) (fun c6 => ?_)
      · have d7 : ((z_fi M_5 1573 (n + 40))).toInt = 2 := i_eq c6 rfl (show (2 : Int32).toInt = 2 from rfl)
        refine t_X12_acknowledges J_M_5 (by subst_vars; exact h0) (fun M_17 p0_M_17 J_M_17 => ?_)
        exact k _ (by first | (subst_vars; rfl) | exact p0_M_12.trans (by subst_vars; rfl) | exact p0_M_17.trans (by subst_vars; rfl) | exact p0_M_10.trans (by subst_vars; rfl)) (rf_w J_M_17 (by omega) (by omega) (by omega) (by omega))
      · have d8 : ¬ ((z_fi M_5 1573 (n + 40))).toInt = 2 := i_ne c6 rfl (show (2 : Int32).toInt = 2 from rfl)
        intro M_16 e_M_16
        have J_M_16 := w_sfi J_M_5 e_M_16 (by decide +kernel)
        exact k _ (by first | (subst_vars; rfl) | exact p0_M_12.trans (by subst_vars; rfl) | exact p0_M_17.trans (by subst_vars; rfl) | exact p0_M_10.trans (by subst_vars; rfl)) (rf_w J_M_16 (by omega) (by omega) (by omega) (by omega))
  · have d9 : ¬ ((z_ai M_5 (n + 79) (x1 : Int32).toNatClampNeg)).toInt = 0 := i_ne c1 rfl (show (0 : Int32).toInt = 0 from rfl)
    refine t_X12_acknowledges J_M_5 (by subst_vars; exact h0) (fun M_10 p0_M_10 J_M_10 => ?_)
    exact k _ (by first | (subst_vars; rfl) | exact p0_M_12.trans (by subst_vars; rfl) | exact p0_M_17.trans (by subst_vars; rfl) | exact p0_M_10.trans (by subst_vars; rfl)) (rf_w J_M_10 (by omega) (by omega) (by omega) (by omega))
theorem t_X12_takes_138 {n t s q z : Nat} {M0 : z_Mem} {Post : z_Mem → Prop} {sv : Int32} (k : ∀ M1, (z_fi M1 1562 (n + 40) = sv) → rf_J n t s q z M0 M1 → Post M1) : ∀ (m : Nat) (x1 : Int32) (x2 : Int32) (M : z_Mem), (200 - x2.toInt).toNat < m → 0 ≤ x1.toInt → x1.toInt ≤ 399 → 0 ≤ x2.toInt → 0 ≤ (z_fi M 1575 (n + 40)).toInt → z_fi M 1562 (n + 40) = sv → rf_J n t (s + 1) (q + 1) z M0 M → P_X12_takes_138 (n + 40) Post m x1 x2 M := by
  have T0 : (0 : Int32).toInt = 0 := rfl; have T1 : (1 : Int32).toInt = 1 := rfl; have T2 : (2 : Int32).toInt = 2 := rfl; have T10 : (10 : Int32).toInt = 10 := rfl
  intro m
  induction m with
  | zero => intro x1 x2 M h; omega
  | succ m ih =>
    intro x1 x2 M hm f0 f1 f2 f3 f4 J
    refine z_nn_of (s_1597_40 J.1) ?_
    refine And.intro (by exact vp_of (L := 400) (s_l75 J.1) (by omega) (by omega)) ?_
    refine And.intro (fun c1 => ?_) (fun c1 => ?_)
    · have b2 := a_75 J (x1 : Int32).toNatClampNeg
      have d3 : ((z_ai M (n + 75) (x1 : Int32).toNatClampNeg)).toInt ≤ (x2).toInt := i_le c1 rfl rfl
      refine And.intro (fun c4 => ?_) (fun c4 => ?_)
      · exact t_X12_takes_194 J (by omega) f3 (fun M1 p0 J1 => k M1 (p0.trans f4) J1)
      · exact t_X12_takes_194 J (by omega) f3 (fun M1 p0 J1 => k M1 (p0.trans f4) J1)
    · have b5 := a_75 J (x1 : Int32).toNatClampNeg
      have d6 : ¬ ((z_ai M (n + 75) (x1 : Int32).toNatClampNeg)).toInt ≤ (x2).toInt := i_nle c1 rfl rfl
      refine z_nn_of (s_1595_40 J.1) ?_
      refine And.intro (by exact vp_of (L := 400) (s_l73 J.1) (by omega) (by omega)) ?_
      refine z_nn_of (s_1596_40 J.1) ?_
      refine And.intro (by exact vp_of (L := 400) (s_l74 J.1) (by omega) (by omega)) ?_
      refine z_nn_of (s_1570_40 J.1) ?_
      refine And.intro (by have b7 := a_73 J (x1 : Int32).toNatClampNeg; have b8 := a_74 J (x1 : Int32).toNatClampNeg; have fm := rf_fm J (x1 : Int32).toNatClampNeg; exact vp_of (L := 800) (s_l64 J.1) (by rw [(show ((((200 * (z_ai M (n + 73) (x1 : Int32).toNatClampNeg)) + (z_ai M (n + 74) (x1 : Int32).toNatClampNeg)) + x2) : Int32).toInt = (((200 * ((z_ai M (n + 73) (x1 : Int32).toNatClampNeg)).toInt) + ((z_ai M (n + 74) (x1 : Int32).toNatClampNeg)).toInt) + (x2).toInt) from i_addE (show (((200 * (z_ai M (n + 73) (x1 : Int32).toNatClampNeg)) + (z_ai M (n + 74) (x1 : Int32).toNatClampNeg)) : Int32).toInt = ((200 * ((z_ai M (n + 73) (x1 : Int32).toNatClampNeg)).toInt) + ((z_ai M (n + 74) (x1 : Int32).toNatClampNeg)).toInt) from i_addE (show ((200 * (z_ai M (n + 73) (x1 : Int32).toNatClampNeg)) : Int32).toInt = (200 * ((z_ai M (n + 73) (x1 : Int32).toNatClampNeg)).toInt) from i_mulE (show (200 : Int32).toInt = 200 from rfl) rfl (by omega) (by omega)) rfl (by omega) (by omega)) rfl (by omega) (by omega))]; omega) (by rw [(show ((((200 * (z_ai M (n + 73) (x1 : Int32).toNatClampNeg)) + (z_ai M (n + 74) (x1 : Int32).toNatClampNeg)) + x2) : Int32).toInt = (((200 * ((z_ai M (n + 73) (x1 : Int32).toNatClampNeg)).toInt) + ((z_ai M (n + 74) (x1 : Int32).toNatClampNeg)).toInt) + (x2).toInt) from i_addE (show (((200 * (z_ai M (n + 73) (x1 : Int32).toNatClampNeg)) + (z_ai M (n + 74) (x1 : Int32).toNatClampNeg)) : Int32).toInt = ((200 * ((z_ai M (n + 73) (x1 : Int32).toNatClampNeg)).toInt) + ((z_ai M (n + 74) (x1 : Int32).toNatClampNeg)).toInt) from i_addE (show ((200 * (z_ai M (n + 73) (x1 : Int32).toNatClampNeg)) : Int32).toInt = (200 * ((z_ai M (n + 73) (x1 : Int32).toNatClampNeg)).toInt) from i_mulE (show (200 : Int32).toInt = 200 from rfl) rfl (by omega) (by omega)) rfl (by omega) (by omega)) rfl (by omega) (by omega))]; omega)) ?_
      intro M_33 e_M_33
      have J_M_33 := w_sai J e_M_33 (by decide +kernel)
      intro x_34 e_x_34
      have t_x_34 : x_34.toInt = ((x2).toInt + 1) := by rw [e_x_34]; exact (show ((x2 + 1) : Int32).toInt = ((x2).toInt + 1) from i_addE rfl (show (1 : Int32).toInt = 1 from rfl) (by omega) (by omega))
      exact ih _ _ _ (by omega) (by omega) (by omega) (by omega) (by subst_vars; exact f3) (by subst_vars; rfl) (rf_w J_M_33 (by omega) (by omega) (by omega) (by omega))
theorem t_X12_takes_99 {n t s q z : Nat} {M0 : z_Mem} {Post : z_Mem → Prop} {x1 : Int32} {M : z_Mem} (J : rf_J n t (s + 1) (q + 1) z M0 M) (h_x1 : 0 ≤ x1.toInt ∧ x1.toInt ≤ 399) (h0 : 0 ≤ (z_fi M 1575 (n + 40)).toInt) (k : ∀ M1, (z_fi M1 1562 (n + 40) = z_fi M 1562 (n + 40)) → rf_J n t s q z M0 M1 → Post M1) : P_X12_takes_99 (n + 40) Post x1 M := by
  have T0 : (0 : Int32).toInt = 0 := rfl; have T1 : (1 : Int32).toInt = 1 := rfl; have T2 : (2 : Int32).toInt = 2 := rfl; have T10 : (10 : Int32).toInt = 10 := rfl
  refine z_nn_of (s_1599_40 J.1) ?_
  refine And.intro (by exact vp_of (L := 400) (s_l77 J.1) (by omega) (by omega)) ?_
  intro M_41 e_M_41
  have J_M_41 := w_sai J e_M_41 (by decide +kernel)
  refine z_nn_of (s_1569_40 J_M_41.1) ?_
  refine And.intro (by exact vp_of (L := 400) (s_l63 J_M_41.1) (by omega) (by omega)) ?_
  intro M_45 e_M_45
  have J_M_45 := w_63 J_M_41 e_M_45 (by decide)
  refine z_nn_of (s_1603_40 J_M_45.1) ?_
  refine And.intro (by exact vp_of (L := 400) (s_l81 J_M_45.1) (by omega) (by omega)) ?_
  refine And.intro (fun c1 => ?_) (fun c1 => ?_)
  · have d2 : ((z_ai M_45 (n + 81) (x1 : Int32).toNatClampNeg)).toInt = 0 := i_eq c1 rfl (show (0 : Int32).toInt = 0 from rfl)
    refine z_nn_of rfl ?_
    intro M_36w1 e_M_36w1
    have J_M_36w1 := w_1576 J_M_45 e_M_36w1 (fun _ => ⟨(x1 : Int32).toNatClampNeg, i_natlt (by omega) (by omega), by rw [e_M_45, rf_ea, if_pos rfl]; decide⟩)
    exact ⟨_, t_X12_takes_138 k _ _ _ _ (Nat.lt_succ_self _) (by omega) (by omega) (by decide) (by subst_vars; exact h0) (by subst_vars; rfl) (rf_w J_M_36w1 (by omega) (by omega) (by omega) (by omega))⟩
  · have d3 : ¬ ((z_ai M_45 (n + 81) (x1 : Int32).toNatClampNeg)).toInt = 0 := i_ne c1 rfl (show (0 : Int32).toInt = 0 from rfl)
    refine z_nn_of rfl ?_
    intro M_36w2 e_M_36w2
    have J_M_36w2 := w_1576 J_M_45 e_M_36w2 (fun _ => ⟨(x1 : Int32).toNatClampNeg, i_natlt (by omega) (by omega), by rw [e_M_45, rf_ea, if_pos rfl]; decide⟩)
    exact ⟨_, t_X12_takes_138 k _ _ _ _ (Nat.lt_succ_self _) (by omega) (by omega) (by decide) (by subst_vars; exact h0) (by subst_vars; rfl) (rf_w J_M_36w2 (by omega) (by omega) (by omega) (by omega))⟩
theorem t_X12_takes_43 {n t s q z : Nat} {M0 : z_Mem} {Post : z_Mem → Prop} {x1 : Int32} {M : z_Mem} (J : rf_J n t (s + 1) (q + 1) z M0 M) (h_x1 : 0 ≤ x1.toInt ∧ x1.toInt ≤ 399) (h0 : 0 ≤ (z_fi M 1575 (n + 40)).toInt) (k : ∀ M1, (z_fi M1 1562 (n + 40) = z_fi M 1562 (n + 40)) → rf_J n t s q z M0 M1 → Post M1) : P_X12_takes_43 (n + 40) Post x1 M := by
  have T0 : (0 : Int32).toInt = 0 := rfl; have T1 : (1 : Int32).toInt = 1 := rfl; have T2 : (2 : Int32).toInt = 2 := rfl; have T10 : (10 : Int32).toInt = 10 := rfl
  refine z_nn_of (s_1600_40 J.1) ?_
  refine And.intro (by exact vp_of (L := 400) (s_l78 J.1) (by omega) (by omega)) ?_
  refine And.intro (fun c1 => ?_) (fun c1 => ?_)
  · have d2 : ((z_ai M (n + 78) (x1 : Int32).toNatClampNeg)).toInt ≤ ((z_fi M 1566 (n + 40))).toInt := i_le c1 rfl rfl
    refine z_nn_of (s_1600_40 J.1) ?_
    refine And.intro (by exact vp_of (L := 400) (s_l78 J.1) (by omega) (by omega)) ?_
    refine t_X12_isByKey J (fun x_59 => ?_)
    refine And.intro (fun c3 => ?_) (fun c3 => ?_)
    · have d4 : (x_59).toInt = 0 := i_eq c3 rfl (show (0 : Int32).toInt = 0 from rfl)
      exact k _ (by subst_vars; rfl) (rf_w J (by omega) (by omega) (by omega) (by omega))
    · have d5 : ¬ (x_59).toInt = 0 := i_ne c3 rfl (show (0 : Int32).toInt = 0 from rfl)
      exact t_X12_takes_99 J (by omega) (by subst_vars; exact h0) (fun M1 p0 J1 => k M1 (p0.trans (by subst_vars; rfl)) J1)
  · have d6 : ¬ ((z_ai M (n + 78) (x1 : Int32).toNatClampNeg)).toInt ≤ ((z_fi M 1566 (n + 40))).toInt := i_nle c1 rfl rfl
    intro M_62 e_M_62
    have J_M_62 := w_sfi J e_M_62 (by decide +kernel)
    refine z_nn_of (s_1600_40 J_M_62.1) ?_
    refine And.intro (by exact vp_of (L := 400) (s_l78 J_M_62.1) (by omega) (by omega)) ?_
    intro M_66 e_M_66
    have J_M_66 := w_sfi J_M_62 e_M_66 (by decide +kernel)
    intro M_68 e_M_68
    have J_M_68 := w_sfi J_M_66 e_M_68 (by decide +kernel)
    exact t_X12_takes_99 J_M_68 (by omega) (by subst_vars; exact h0) (fun M1 p0 J1 => k M1 (p0.trans (by subst_vars; rfl)) J1)
theorem t_X12_takes {n t s q z : Nat} {M0 : z_Mem} {p1 : Int32} {M : z_Mem} {Post : z_Mem → Prop} (J : rf_J n t (s + 1) (q + 1) z M0 M) (h_p1 : 0 ≤ p1.toInt ∧ p1.toInt ≤ 399) (k : ∀ M1, (z_fi M1 1562 (n + 40) = z_fi M 1562 (n + 40)) → rf_J n t s q z M0 M1 → Post M1) : P_X12_takes (n + 40) p1 M Post := by
  have T0 : (0 : Int32).toInt = 0 := rfl; have T1 : (1 : Int32).toInt = 1 := rfl; have T2 : (2 : Int32).toInt = 2 := rfl; have T10 : (10 : Int32).toInt = 10 := rfl
  refine z_nn_of (s_1599_40 J.1) ?_
  refine And.intro (by exact vp_of (L := 400) (s_l77 J.1) (by omega) (by omega)) ?_
  intro M_72 e_M_72
  have J_M_72 := w_sai J e_M_72 (by decide +kernel)
  refine And.intro (fun c1 => ?_) (fun c1 => ?_)
  · have d2 : ((z_fi M_72 1562 (n + 40))).toInt = 1 := i_eq c1 rfl (show (1 : Int32).toInt = 1 from rfl)
    refine z_nn_of (s_1593_40 J_M_72.1) ?_
    refine And.intro (by exact vp_of (L := 400) (s_l71 J_M_72.1) (by omega) (by omega)) ?_
    intro M_78 e_M_78
    have J_M_78 := w_1575 J_M_72 e_M_78 (by have b3 := a_71 J_M_72 (p1 : Int32).toNatClampNeg; omega) (by have b3 := a_71 J_M_72 (p1 : Int32).toNatClampNeg; omega)
    refine z_nn_of (s_1602_40 J_M_78.1) ?_
    refine And.intro (by exact vp_of (L := 400) (s_l80 J_M_78.1) (by omega) (by omega)) ?_
    refine And.intro (fun c4 => ?_) (fun c4 => ?_)
    · have d5 : ((z_ai M_78 (n + 80) (p1 : Int32).toNatClampNeg)).toInt = 0 := i_eq c4 rfl (show (0 : Int32).toInt = 0 from rfl)
      exact t_X12_takes_43 J_M_78 (by omega) (by rw [e_M_78, rf_ef]; exact (a_71 J_M_72 _).1) (fun M1 p0 J1 => k M1 (p0.trans (by subst_vars; rfl)) J1)
    · have d6 : ¬ ((z_ai M_78 (n + 80) (p1 : Int32).toNatClampNeg)).toInt = 0 := i_ne c4 rfl (show (0 : Int32).toInt = 0 from rfl)
      refine And.intro (fun c7 => ?_) (fun c7 => ?_)
      · have d8 : ((z_fi M_78 1564 (n + 40))).toInt = 0 := i_eq c7 rfl (show (0 : Int32).toInt = 0 from rfl)
        exact k _ (by subst_vars; rfl) (rf_w J_M_78 (by omega) (by omega) (by omega) (by omega))
      · have d9 : ¬ ((z_fi M_78 1564 (n + 40))).toInt = 0 := i_ne c7 rfl (show (0 : Int32).toInt = 0 from rfl)
        exact t_X12_takes_43 J_M_78 (by omega) (by rw [e_M_78, rf_ef]; exact (a_71 J_M_72 _).1) (fun M1 p0 J1 => k M1 (p0.trans (by subst_vars; rfl)) J1)
  · have d10 : ¬ ((z_fi M_72 1562 (n + 40))).toInt = 1 := i_ne c1 rfl (show (1 : Int32).toInt = 1 from rfl)
    exact k _ (by subst_vars; rfl) (rf_w J_M_72 (by omega) (by omega) (by omega) (by omega))
theorem t_X12_hears {n t s q z : Nat} {M0 : z_Mem} {p1 : Int32} {p2 : Int32} {M : z_Mem} {Post : z_Mem → Prop} (J : rf_J n t (s + 1) q z M0 M) (h_p1 : 0 ≤ p1.toInt ∧ p1.toInt ≤ 1) (h_p2 : 0 ≤ p2.toInt ∧ p2.toInt ≤ 21) (k : ∀ M1, rf_J n t s q z M0 M1 → Post M1) : P_X12_hears (n + 40) p1 p2 M Post := by
  have T0 : (0 : Int32).toInt = 0 := rfl; have T1 : (1 : Int32).toInt = 1 := rfl; have T2 : (2 : Int32).toInt = 2 := rfl; have T10 : (10 : Int32).toInt = 10 := rfl
  refine And.intro (fun c1 => ?_) (fun c1 => ?_)
  · have d2 : ((p2).toInt % 2) = 1 := i_eq c1 (show ((p2 - ((p2 / 2) * 2)) : Int32).toInt = ((p2).toInt % 2) from i_modE2 rfl (by omega)) (show (1 : Int32).toInt = 1 from rfl)
    intro x_19w1 e_x_19w1
    have t_x_19w1 : x_19w1.toInt = (((p2).toInt / 2) - 1) := by rw [e_x_19w1]; exact (show (((p2 / 2) - 1) : Int32).toInt = (((p2).toInt / 2) - 1) from i_subE (show ((p2 / 2) : Int32).toInt = ((p2).toInt / 2) from i_divE rfl (show (2 : Int32).toInt = 2 from rfl) (by omega) (by omega)) (show (1 : Int32).toInt = 1 from rfl) (by omega) (by omega))
    refine And.intro (fun c3 => ?_) (fun c3 => ?_)
    · have d4 : ((z_fi M 1562 (n + 40))).toInt = 2 := i_eq c3 rfl (show (2 : Int32).toInt = 2 from rfl)
      exact k _ (rf_w J (by omega) (by omega) (by omega) (by omega))
    · have d5 : ¬ ((z_fi M 1562 (n + 40))).toInt = 2 := i_ne c3 rfl (show (2 : Int32).toInt = 2 from rfl)
      refine And.intro (fun c6 => ?_) (fun c6 => ?_)
      · have d7 : ((z_fi M 1562 (n + 40))).toInt = 1 := i_eq c6 rfl (show (1 : Int32).toInt = 1 from rfl)
        refine And.intro (fun c8 => ?_) (fun c8 => ?_)
        · have d9 : ((z_fi M 1564 (n + 40))).toInt = 0 := i_eq c8 rfl (show (0 : Int32).toInt = 0 from rfl)
          refine t_X12_answers J (by omega) (by rw [(show (0 : Int32).toInt = 0 from rfl)]; omega) (fun M_30w1 p0_M_30w1 J_M_30w1 => ?_)
          exact k _ (rf_w J_M_30w1 (by omega) (by omega) (by omega) (by omega))
        · have d10 : ¬ ((z_fi M 1564 (n + 40))).toInt = 0 := i_ne c8 rfl (show (0 : Int32).toInt = 0 from rfl)
          refine t_X12_answers J (by omega) (by rw [(show (1 : Int32).toInt = 1 from rfl)]; omega) (fun M_31w1 p0_M_31w1 J_M_31w1 => ?_)
          exact k _ (rf_w J_M_31w1 (by omega) (by omega) (by omega) (by omega))
      · have d11 : ¬ ((z_fi M 1562 (n + 40))).toInt = 1 := i_ne c6 rfl (show (1 : Int32).toInt = 1 from rfl)
        refine And.intro (fun c12 => ?_) (fun c12 => ?_)
        · have d13 : ((z_fi M 1563 (n + 40))).toInt = 0 := i_eq c12 rfl (show (0 : Int32).toInt = 0 from rfl)
          exact t_X12_hears_80 J (by omega) (by omega) k
        · have d14 : ¬ ((z_fi M 1563 (n + 40))).toInt = 0 := i_ne c12 rfl (show (0 : Int32).toInt = 0 from rfl)
          refine And.intro (fun c15 => ?_) (fun c15 => ?_)
          · exact absurd c15 (by decide)
          · exact t_X12_hears_80 J (by omega) (by omega) k
  · have d16 : ¬ ((p2).toInt % 2) = 1 := i_ne c1 (show ((p2 - ((p2 / 2) * 2)) : Int32).toInt = ((p2).toInt % 2) from i_modE2 rfl (by omega)) (show (1 : Int32).toInt = 1 from rfl)
    intro x_19w2 e_x_19w2
    have t_x_19w2 : x_19w2.toInt = (((p2).toInt / 2) - 1) := by rw [e_x_19w2]; exact (show (((p2 / 2) - 1) : Int32).toInt = (((p2).toInt / 2) - 1) from i_subE (show ((p2 / 2) : Int32).toInt = ((p2).toInt / 2) from i_divE rfl (show (2 : Int32).toInt = 2 from rfl) (by omega) (by omega)) (show (1 : Int32).toInt = 1 from rfl) (by omega) (by omega))
    refine And.intro (fun c17 => ?_) (fun c17 => ?_)
    · have d18 : ((z_fi M 1562 (n + 40))).toInt = 2 := i_eq c17 rfl (show (2 : Int32).toInt = 2 from rfl)
      exact k _ (rf_w J (by omega) (by omega) (by omega) (by omega))
    · have d19 : ¬ ((z_fi M 1562 (n + 40))).toInt = 2 := i_ne c17 rfl (show (2 : Int32).toInt = 2 from rfl)
      refine And.intro (fun c20 => ?_) (fun c20 => ?_)
      · have d21 : ((z_fi M 1562 (n + 40))).toInt = 1 := i_eq c20 rfl (show (1 : Int32).toInt = 1 from rfl)
        refine And.intro (fun c22 => ?_) (fun c22 => ?_)
        · have d23 : ((z_fi M 1564 (n + 40))).toInt = 0 := i_eq c22 rfl (show (0 : Int32).toInt = 0 from rfl)
          refine t_X12_answers J (by omega) (by rw [(show (0 : Int32).toInt = 0 from rfl)]; omega) (fun M_30w2 p0_M_30w2 J_M_30w2 => ?_)
          exact k _ (rf_w J_M_30w2 (by omega) (by omega) (by omega) (by omega))
        · have d24 : ¬ ((z_fi M 1564 (n + 40))).toInt = 0 := i_ne c22 rfl (show (0 : Int32).toInt = 0 from rfl)
          refine t_X12_answers J (by omega) (by rw [(show (1 : Int32).toInt = 1 from rfl)]; omega) (fun M_31w2 p0_M_31w2 J_M_31w2 => ?_)
          exact k _ (rf_w J_M_31w2 (by omega) (by omega) (by omega) (by omega))
      · have d25 : ¬ ((z_fi M 1562 (n + 40))).toInt = 1 := i_ne c20 rfl (show (1 : Int32).toInt = 1 from rfl)
        refine And.intro (fun c26 => ?_) (fun c26 => ?_)
        · have d27 : ((z_fi M 1563 (n + 40))).toInt = 0 := i_eq c26 rfl (show (0 : Int32).toInt = 0 from rfl)
          exact t_X12_hears_80 J (by omega) (by omega) k
        · have d28 : ¬ ((z_fi M 1563 (n + 40))).toInt = 0 := i_ne c26 rfl (show (0 : Int32).toInt = 0 from rfl)
          refine And.intro (fun c29 => ?_) (fun c29 => ?_)
          · refine t_X12_answers J (by omega) (by rw [(show (0 : Int32).toInt = 0 from rfl)]; omega) (fun M_27w2 p0_M_27w2 J_M_27w2 => ?_)
            exact k _ (rf_w J_M_27w2 (by omega) (by omega) (by omega) (by omega))
          · exact absurd rfl c29
theorem t_X12_arrivesAtServer_46 {n t s q z : Nat} {M0 : z_Mem} {Post : z_Mem → Prop} {x2 : Int32} {x3 : Int32} {M : z_Mem} (J : rf_J n t (s + 1) (q + 1) z M0 M) (h_x3 : 0 ≤ x3.toInt ∧ x3.toInt ≤ 1) (k : ∀ M1, rf_J n t s q z M0 M1 → Post M1) : P_X12_arrivesAtServer_46 (n + 40) Post x2 x3 M := by
  have T0 : (0 : Int32).toInt = 0 := rfl; have T1 : (1 : Int32).toInt = 1 := rfl; have T2 : (2 : Int32).toInt = 2 := rfl; have T10 : (10 : Int32).toInt = 10 := rfl
  refine And.intro (fun c1 => ?_) (fun c1 => ?_)
  · have d2 : ((z_fi M 1562 (n + 40))).toInt = 3 := i_eq c1 rfl (show (3 : Int32).toInt = 3 from rfl)
    refine t_X12_answers J (by omega) (by rw [(show (0 : Int32).toInt = 0 from rfl)]; omega) (fun M_11 p0_M_11 J_M_11 => ?_)
    exact k _ (rf_w J_M_11 (by omega) (by omega) (by omega) (by omega))
  · have d3 : ¬ ((z_fi M 1562 (n + 40))).toInt = 3 := i_ne c1 rfl (show (3 : Int32).toInt = 3 from rfl)
    refine And.intro (fun c4 => ?_) (fun c4 => ?_)
    · have d5 : (x2).toInt = 3 := i_eq c4 rfl (show (3 : Int32).toInt = 3 from rfl)
      refine And.intro (fun c6 => ?_) (fun c6 => ?_)
      · have d7 : ((z_fi M 1562 (n + 40))).toInt = 1 := i_eq c6 rfl (show (1 : Int32).toInt = 1 from rfl)
        refine t_X12_answers J (by omega) (by rw [(show (0 : Int32).toInt = 0 from rfl)]; omega) (fun M_10 p0_M_10 J_M_10 => ?_)
        exact k _ (rf_w J_M_10 (by omega) (by omega) (by omega) (by omega))
      · have d8 : ¬ ((z_fi M 1562 (n + 40))).toInt = 1 := i_ne c6 rfl (show (1 : Int32).toInt = 1 from rfl)
        refine And.intro (fun c9 => ?_) (fun c9 => ?_)
        · have d10 : (x2).toInt = 4 := i_eq c9 rfl (show (4 : Int32).toInt = 4 from rfl)
          intro M_9 e_M_9
          have J_M_9 := w_sfi J e_M_9 (by decide +kernel)
          exact k _ (rf_w J_M_9 (by omega) (by omega) (by omega) (by omega))
        · have d11 : ¬ (x2).toInt = 4 := i_ne c9 rfl (show (4 : Int32).toInt = 4 from rfl)
          exact k _ (rf_w J (by omega) (by omega) (by omega) (by omega))
    · have d12 : ¬ (x2).toInt = 3 := i_ne c4 rfl (show (3 : Int32).toInt = 3 from rfl)
      refine And.intro (fun c13 => ?_) (fun c13 => ?_)
      · have d14 : (x2).toInt = 4 := i_eq c13 rfl (show (4 : Int32).toInt = 4 from rfl)
        intro M_5 e_M_5
        have J_M_5 := w_sfi J e_M_5 (by decide +kernel)
        exact k _ (rf_w J_M_5 (by omega) (by omega) (by omega) (by omega))
      · have d15 : ¬ (x2).toInt = 4 := i_ne c13 rfl (show (4 : Int32).toInt = 4 from rfl)
        exact k _ (rf_w J (by omega) (by omega) (by omega) (by omega))
theorem t_X12_harms {n t s q z : Nat} {M0 : z_Mem} {p1 : Int32} {p2 : Int32} {p3 : Int32} {M : z_Mem} {Post : z_Mem → Prop} (J : rf_J n t s q z M0 M) (h_p1 : 0 ≤ p1.toInt ∧ p1.toInt ≤ 1) (k : ∀ M1, rf_J n t s q z M0 M1 → Post M1) : P_X12_harms (n + 40) p1 p2 p3 M Post := by
  have T0 : (0 : Int32).toInt = 0 := rfl; have T1 : (1 : Int32).toInt = 1 := rfl; have T2 : (2 : Int32).toInt = 2 := rfl; have T10 : (10 : Int32).toInt = 10 := rfl
  refine z_nn_of (s_1623_40 J.1) ?_
  refine And.intro (by exact vp_of (L := 2) (s_l100 J.1) (by omega) (by omega)) ?_
  refine And.intro (fun c1 => ?_) (fun c1 => ?_)
  · have d2 : ((z_ai M (n + 100) (p1 : Int32).toNatClampNeg)).toInt ≤ (p2).toInt := i_le c1 rfl rfl
    refine z_nn_of (s_1629_40 J.1) ?_
    refine And.intro (by exact vp_of (L := 6) (s_l106 J.1) (by rw [(show (5 : Int32).toInt = 5 from rfl)]; omega) (by rw [(show (5 : Int32).toInt = 5 from rfl)]; omega)) ?_
    refine And.intro (by exact vp_of (L := 6) (s_l106 J.1) (by rw [(show (5 : Int32).toInt = 5 from rfl)]; omega) (by rw [(show (5 : Int32).toInt = 5 from rfl)]; omega)) ?_
    intro M_52 e_M_52
    have J_M_52 := w_sai J e_M_52 (by decide +kernel)
    refine z_nn_of (s_1623_40 J_M_52.1) ?_
    refine And.intro (by exact vp_of (L := 2) (s_l100 J_M_52.1) (by omega) (by omega)) ?_
    intro M_57 e_M_57
    have J_M_57 := w_sai J_M_52 e_M_57 (by decide +kernel)
    refine z_nn_of (s_1624_40 J_M_57.1) ?_
    refine And.intro (by exact vp_of (L := 2) (s_l101 J_M_57.1) (by omega) (by omega)) ?_
    intro M_62 e_M_62
    have J_M_62 := w_101 J_M_57 e_M_62 rfl
    refine And.intro (fun c3 => ?_) (fun c3 => ?_)
    · have d4 : (p3).toInt = 0 := i_eq c3 rfl (show (0 : Int32).toInt = 0 from rfl)
      refine z_nn_of (s_1625_40 J_M_62.1) ?_
      refine And.intro (by exact vp_of (L := 2) (s_l102 J_M_62.1) (by omega) (by omega)) ?_
      intro M_14w1 e_M_14w1
      have J_M_14w1 := w_sai J_M_62 e_M_14w1 (by decide +kernel)
      refine z_nn_of (s_1607_40 J_M_14w1.1) ?_
      refine And.intro (by exact vp_of (L := 2) (s_l84 J_M_14w1.1) (by omega) (by omega)) ?_
      refine z_nn_of (s_1626_40 J_M_14w1.1) ?_
      refine And.intro (by exact vp_of (L := 2) (s_l103 J_M_14w1.1) (by omega) (by omega)) ?_
      intro M_21w1 e_M_21w1
      have J_M_21w1 := w_103 J_M_14w1 e_M_21w1 (rf_hw J_M_14w1 (i_natlt (by omega) (by omega)) (by subst_vars; simp only [rf_na (show (101 : Nat) ≠ 102 by decide), rf_ea, if_pos, zq_fi_sai]))
      refine z_nn_of (s_1608_40 J_M_21w1.1) ?_
      refine And.intro (by exact vp_of (L := 2) (s_l85 J_M_21w1.1) (by omega) (by omega)) ?_
      refine z_nn_of (s_1627_40 J_M_21w1.1) ?_
      refine And.intro (by exact vp_of (L := 2) (s_l104 J_M_21w1.1) (by omega) (by omega)) ?_
      intro M_28w1 e_M_28w1
      have J_M_28w1 := w_sai J_M_21w1 e_M_28w1 (by decide +kernel)
      refine z_nn_of (s_1609_40 J_M_28w1.1) ?_
      refine And.intro (by exact vp_of (L := 2) (s_l86 J_M_28w1.1) (by omega) (by omega)) ?_
      refine And.intro (fun c5 => ?_) (fun c5 => ?_)
      · have d6 : 2 ≤ ((z_ai M_28w1 (n + 86) (p1 : Int32).toNatClampNeg)).toInt := i_le c5 (show (2 : Int32).toInt = 2 from rfl) rfl
        exact k _ (rf_w J_M_28w1 (by omega) (by omega) (by omega) (by omega))
      · have d7 : ¬ 2 ≤ ((z_ai M_28w1 (n + 86) (p1 : Int32).toNatClampNeg)).toInt := i_nle c5 (show (2 : Int32).toInt = 2 from rfl) rfl
        refine z_nn_of (s_1609_40 J_M_28w1.1) ?_
        refine And.intro (by exact vp_of (L := 2) (s_l86 J_M_28w1.1) (by omega) (by omega)) ?_
        refine And.intro (fun c8 => ?_) (fun c8 => ?_)
        · have d9 : ((z_ai M_28w1 (n + 86) (p1 : Int32).toNatClampNeg)).toInt = 0 := i_eq c8 rfl (show (0 : Int32).toInt = 0 from rfl)
          refine z_nn_of (s_1607_40 J_M_28w1.1) ?_
          refine And.intro (by exact vp_of (L := 2) (s_l84 J_M_28w1.1) (by omega) (by omega)) ?_
          exact t_X12_harms_129 J_M_28w1 (by omega) (i_half (x := z_ai M_28w1 (n + 84) (p1 : Int32).toNatClampNeg) (by have := rf_wb J_M_28w1 (p := (p1 : Int32).toNatClampNeg) (i_natlt (by omega) (by omega)); omega)) k
        · have d10 : ¬ ((z_ai M_28w1 (n + 86) (p1 : Int32).toNatClampNeg)).toInt = 0 := i_ne c8 rfl (show (0 : Int32).toInt = 0 from rfl)
          refine z_nn_of (s_1607_40 J_M_28w1.1) ?_
          refine And.intro (by exact vp_of (L := 2) (s_l84 J_M_28w1.1) (by omega) (by omega)) ?_
          exact t_X12_harms_129 J_M_28w1 (by omega) (i_710 (x := z_ai M_28w1 (n + 84) (p1 : Int32).toNatClampNeg) (by have := rf_wb J_M_28w1 (p := (p1 : Int32).toNatClampNeg) (i_natlt (by omega) (by omega)); omega) (by have := rf_wb J_M_28w1 (p := (p1 : Int32).toNatClampNeg) (i_natlt (by omega) (by omega)); omega)) k
    · have d11 : ¬ (p3).toInt = 0 := i_ne c3 rfl (show (0 : Int32).toInt = 0 from rfl)
      refine z_nn_of (s_1625_40 J_M_62.1) ?_
      refine And.intro (by exact vp_of (L := 2) (s_l102 J_M_62.1) (by omega) (by omega)) ?_
      intro M_14w2 e_M_14w2
      have J_M_14w2 := w_sai J_M_62 e_M_14w2 (by decide +kernel)
      refine z_nn_of (s_1607_40 J_M_14w2.1) ?_
      refine And.intro (by exact vp_of (L := 2) (s_l84 J_M_14w2.1) (by omega) (by omega)) ?_
      refine z_nn_of (s_1626_40 J_M_14w2.1) ?_
      refine And.intro (by exact vp_of (L := 2) (s_l103 J_M_14w2.1) (by omega) (by omega)) ?_
      intro M_21w2 e_M_21w2
      have J_M_21w2 := w_103 J_M_14w2 e_M_21w2 (rf_hw J_M_14w2 (i_natlt (by omega) (by omega)) (by subst_vars; simp only [rf_na (show (101 : Nat) ≠ 102 by decide), rf_ea, if_pos, zq_fi_sai]))
      refine z_nn_of (s_1608_40 J_M_21w2.1) ?_
      refine And.intro (by exact vp_of (L := 2) (s_l85 J_M_21w2.1) (by omega) (by omega)) ?_
      refine z_nn_of (s_1627_40 J_M_21w2.1) ?_
      refine And.intro (by exact vp_of (L := 2) (s_l104 J_M_21w2.1) (by omega) (by omega)) ?_
      intro M_28w2 e_M_28w2
      have J_M_28w2 := w_sai J_M_21w2 e_M_28w2 (by decide +kernel)
      refine z_nn_of (s_1609_40 J_M_28w2.1) ?_
      refine And.intro (by exact vp_of (L := 2) (s_l86 J_M_28w2.1) (by omega) (by omega)) ?_
      refine And.intro (fun c12 => ?_) (fun c12 => ?_)
      · have d13 : 2 ≤ ((z_ai M_28w2 (n + 86) (p1 : Int32).toNatClampNeg)).toInt := i_le c12 (show (2 : Int32).toInt = 2 from rfl) rfl
        exact k _ (rf_w J_M_28w2 (by omega) (by omega) (by omega) (by omega))
      · have d14 : ¬ 2 ≤ ((z_ai M_28w2 (n + 86) (p1 : Int32).toNatClampNeg)).toInt := i_nle c12 (show (2 : Int32).toInt = 2 from rfl) rfl
        refine z_nn_of (s_1609_40 J_M_28w2.1) ?_
        refine And.intro (by exact vp_of (L := 2) (s_l86 J_M_28w2.1) (by omega) (by omega)) ?_
        refine And.intro (fun c15 => ?_) (fun c15 => ?_)
        · have d16 : ((z_ai M_28w2 (n + 86) (p1 : Int32).toNatClampNeg)).toInt = 0 := i_eq c15 rfl (show (0 : Int32).toInt = 0 from rfl)
          refine z_nn_of (s_1607_40 J_M_28w2.1) ?_
          refine And.intro (by exact vp_of (L := 2) (s_l84 J_M_28w2.1) (by omega) (by omega)) ?_
          exact t_X12_harms_129 J_M_28w2 (by omega) (i_half (x := z_ai M_28w2 (n + 84) (p1 : Int32).toNatClampNeg) (by have := rf_wb J_M_28w2 (p := (p1 : Int32).toNatClampNeg) (i_natlt (by omega) (by omega)); omega)) k
        · have d17 : ¬ ((z_ai M_28w2 (n + 86) (p1 : Int32).toNatClampNeg)).toInt = 0 := i_ne c15 rfl (show (0 : Int32).toInt = 0 from rfl)
          refine z_nn_of (s_1607_40 J_M_28w2.1) ?_
          refine And.intro (by exact vp_of (L := 2) (s_l84 J_M_28w2.1) (by omega) (by omega)) ?_
          exact t_X12_harms_129 J_M_28w2 (by omega) (i_710 (x := z_ai M_28w2 (n + 84) (p1 : Int32).toNatClampNeg) (by have := rf_wb J_M_28w2 (p := (p1 : Int32).toNatClampNeg) (i_natlt (by omega) (by omega)); omega) (by have := rf_wb J_M_28w2 (p := (p1 : Int32).toNatClampNeg) (i_natlt (by omega) (by omega)); omega)) k
  · have d18 : ¬ ((z_ai M (n + 100) (p1 : Int32).toNatClampNeg)).toInt ≤ (p2).toInt := i_nle c1 rfl rfl
    exact k _ (rf_w J (by omega) (by omega) (by omega) (by omega))
theorem t_X12_loses {n t s q z : Nat} {M0 : z_Mem} {p1 : Int32} {M : z_Mem} {Post : z_Mem → Prop} (J : rf_J n t s q z M0 M) (h_p1 : 0 ≤ p1.toInt ∧ p1.toInt ≤ 399) (k : ∀ M1, rf_J n t s q z M0 M1 → Post M1) : P_X12_loses (n + 40) p1 M Post := by
  have T0 : (0 : Int32).toInt = 0 := rfl; have T1 : (1 : Int32).toInt = 1 := rfl; have T2 : (2 : Int32).toInt = 2 := rfl; have T10 : (10 : Int32).toInt = 10 := rfl
  refine t_X12_lands J (by omega) (by decide) (fun M_1 J_M_1 => ?_)
  refine z_nn_of (s_1629_40 J_M_1.1) ?_
  refine And.intro (by exact vp_of (L := 6) (s_l106 J_M_1.1) (by rw [(show (0 : Int32).toInt = 0 from rfl)]; omega) (by rw [(show (0 : Int32).toInt = 0 from rfl)]; omega)) ?_
  refine And.intro (by exact vp_of (L := 6) (s_l106 J_M_1.1) (by rw [(show (0 : Int32).toInt = 0 from rfl)]; omega) (by rw [(show (0 : Int32).toInt = 0 from rfl)]; omega)) ?_
  intro M_6 e_M_6
  have J_M_6 := w_sai J_M_1 e_M_6 (by decide +kernel)
  refine z_nn_of (s_1593_40 J_M_6.1) ?_
  refine And.intro (by exact vp_of (L := 400) (s_l71 J_M_6.1) (by omega) (by omega)) ?_
  refine t_X12_harms J_M_6 (by have b1 := a_71 J_M_6 (p1 : Int32).toNatClampNeg; omega) (fun M_10 J_M_10 => ?_)
  exact k _ (rf_w J_M_10 (by omega) (by omega) (by omega) (by omega))
theorem t_X12_losesByOrder_2 {n t s q z : Nat} {M0 : z_Mem} {Post : z_Mem → Prop} (k : ∀ M1, rf_J n t s q z M0 M1 → Post M1) : ∀ (m : Nat) (x1 : Int32) (x2 : Int32) (M : z_Mem), (400 - x2.toInt).toNat < m → 0 ≤ x1.toInt → x1.toInt ≤ 1 → 0 ≤ x2.toInt → rf_J n t s q z M0 M → P_X12_losesByOrder_2 (n + 40) Post m x1 x2 M := by
  have T0 : (0 : Int32).toInt = 0 := rfl; have T1 : (1 : Int32).toInt = 1 := rfl; have T2 : (2 : Int32).toInt = 2 := rfl; have T10 : (10 : Int32).toInt = 10 := rfl
  intro m
  induction m with
  | zero => intro x1 x2 M h; omega
  | succ m ih =>
    intro x1 x2 M hm f0 f1 f2 J
    refine And.intro (fun c1 => ?_) (fun c1 => ?_)
    · have b2 := f_1606 J
      have d3 : ((z_fi M 1606 (n + 40))).toInt ≤ (x2).toInt := i_le c1 rfl rfl
      exact k _ (rf_w J (by omega) (by omega) (by omega) (by omega))
    · have b4 := f_1606 J
      have d5 : ¬ ((z_fi M 1606 (n + 40))).toInt ≤ (x2).toInt := i_nle c1 rfl rfl
      refine z_nn_of (s_1593_40 J.1) ?_
      refine And.intro (by exact vp_of (L := 400) (s_l71 J.1) (by omega) (by omega)) ?_
      refine And.intro (fun c6 => ?_) (fun c6 => ?_)
      · have b7 := a_71 J (x2 : Int32).toNatClampNeg
        have d8 : ((z_ai M (n + 71) (x2 : Int32).toNatClampNeg)).toInt = (x1).toInt := i_eq c6 rfl rfl
        refine z_nn_of (s_1598_40 J.1) ?_
        refine And.intro (by exact vp_of (L := 400) (s_l76 J.1) (by omega) (by omega)) ?_
        refine And.intro (fun c9 => ?_) (fun c9 => ?_)
        · have d10 : ((z_ai M (n + 76) (x2 : Int32).toNatClampNeg)).toInt = 0 := i_eq c9 rfl (show (0 : Int32).toInt = 0 from rfl)
          refine z_nn_of (s_1617_40 J.1) ?_
          refine And.intro (by exact vp_of (L := 2) (s_l94 J.1) (by omega) (by omega)) ?_
          refine z_nn_of (s_1604_40 J.1) ?_
          refine And.intro (by exact vp_of (L := 400) (s_l82 J.1) (by omega) (by omega)) ?_
          refine And.intro (fun c11 => ?_) (fun c11 => ?_)
          · intro x_1w1 e_x_1w1
            have t_x_1w1 : x_1w1.toInt = ((x2).toInt + 1) := by rw [e_x_1w1]; exact (show ((x2 + 1) : Int32).toInt = ((x2).toInt + 1) from i_addE rfl (show (1 : Int32).toInt = 1 from rfl) (by omega) (by omega))
            exact ih _ _ _ (by omega) (by omega) (by omega) (by omega) (rf_w J (by omega) (by omega) (by omega) (by omega))
          · refine t_X12_loses J (by omega) (fun M_19 J_M_19 => ?_)
            intro x_1w2 e_x_1w2
            have t_x_1w2 : x_1w2.toInt = ((x2).toInt + 1) := by rw [e_x_1w2]; exact (show ((x2 + 1) : Int32).toInt = ((x2).toInt + 1) from i_addE rfl (show (1 : Int32).toInt = 1 from rfl) (by omega) (by omega))
            exact ih _ _ _ (by omega) (by omega) (by omega) (by omega) (rf_w J_M_19 (by omega) (by omega) (by omega) (by omega))
        · have d12 : ¬ ((z_ai M (n + 76) (x2 : Int32).toNatClampNeg)).toInt = 0 := i_ne c9 rfl (show (0 : Int32).toInt = 0 from rfl)
          intro x_1w3 e_x_1w3
          have t_x_1w3 : x_1w3.toInt = ((x2).toInt + 1) := by rw [e_x_1w3]; exact (show ((x2 + 1) : Int32).toInt = ((x2).toInt + 1) from i_addE rfl (show (1 : Int32).toInt = 1 from rfl) (by omega) (by omega))
          exact ih _ _ _ (by omega) (by omega) (by omega) (by omega) (rf_w J (by omega) (by omega) (by omega) (by omega))
      · have b13 := a_71 J (x2 : Int32).toNatClampNeg
        have d14 : ¬ ((z_ai M (n + 71) (x2 : Int32).toNatClampNeg)).toInt = (x1).toInt := i_ne c6 rfl rfl
        intro x_1w4 e_x_1w4
        have t_x_1w4 : x_1w4.toInt = ((x2).toInt + 1) := by rw [e_x_1w4]; exact (show ((x2 + 1) : Int32).toInt = ((x2).toInt + 1) from i_addE rfl (show (1 : Int32).toInt = 1 from rfl) (by omega) (by omega))
        exact ih _ _ _ (by omega) (by omega) (by omega) (by omega) (rf_w J (by omega) (by omega) (by omega) (by omega))
theorem t_X12_losesByOrder {n t s q z : Nat} {M0 : z_Mem} {p1 : Int32} {M : z_Mem} {Post : z_Mem → Prop} (J : rf_J n t s q z M0 M) (h_p1 : 0 ≤ p1.toInt ∧ p1.toInt ≤ 1) (k : ∀ M1, rf_J n t s q z M0 M1 → Post M1) : P_X12_losesByOrder (n + 40) p1 M Post := by
  have T0 : (0 : Int32).toInt = 0 := rfl; have T1 : (1 : Int32).toInt = 1 := rfl; have T2 : (2 : Int32).toInt = 2 := rfl; have T10 : (10 : Int32).toInt = 10 := rfl
  exact ⟨_, t_X12_losesByOrder_2 k _ _ _ _ (Nat.lt_succ_self _) (by omega) (by omega) (by decide) (rf_w J (by omega) (by omega) (by omega) (by omega))⟩
theorem t_X12_losesByTime_2 {n t s q z : Nat} {M0 : z_Mem} {Post : z_Mem → Prop} (k : ∀ M1, rf_J n t s q z M0 M1 → Post M1) : ∀ (m : Nat) (x1 : Int32) (x2 : Int32) (M : z_Mem), (400 - x2.toInt).toNat < m → 0 ≤ x1.toInt → x1.toInt ≤ 1 → 0 ≤ x2.toInt → rf_J n t s q z M0 M → P_X12_losesByTime_2 (n + 40) Post m x1 x2 M := by
  have T0 : (0 : Int32).toInt = 0 := rfl; have T1 : (1 : Int32).toInt = 1 := rfl; have T2 : (2 : Int32).toInt = 2 := rfl; have T10 : (10 : Int32).toInt = 10 := rfl
  intro m
  induction m with
  | zero => intro x1 x2 M h; omega
  | succ m ih =>
    intro x1 x2 M hm f0 f1 f2 J
    refine And.intro (fun c1 => ?_) (fun c1 => ?_)
    · have b2 := f_1606 J
      have d3 : ((z_fi M 1606 (n + 40))).toInt ≤ (x2).toInt := i_le c1 rfl rfl
      exact k _ (rf_w J (by omega) (by omega) (by omega) (by omega))
    · have b4 := f_1606 J
      have d5 : ¬ ((z_fi M 1606 (n + 40))).toInt ≤ (x2).toInt := i_nle c1 rfl rfl
      refine z_nn_of (s_1610_40 J.1) ?_
      refine And.intro (by exact vp_of (L := 2) (s_l87 J.1) (by omega) (by omega)) ?_
      refine z_nn_of (s_1613_40 J.1) ?_
      refine And.intro (by exact vp_of (L := 2) (s_l90 J.1) (by omega) (by omega)) ?_
      refine t_X12_max J (fun x_10 p0_x_10 p1_x_10 p2_x_10 => ?_)
      refine t_X12_max J (fun x_11 p0_x_11 p1_x_11 p2_x_11 => ?_)
      refine z_nn_of (s_1593_40 J.1) ?_
      refine And.intro (by exact vp_of (L := 400) (s_l71 J.1) (by omega) (by omega)) ?_
      refine And.intro (fun c6 => ?_) (fun c6 => ?_)
      · have b7 := a_71 J (x2 : Int32).toNatClampNeg
        have d8 : ((z_ai M (n + 71) (x2 : Int32).toNatClampNeg)).toInt = (x1).toInt := i_eq c6 rfl rfl
        refine z_nn_of (s_1598_40 J.1) ?_
        refine And.intro (by exact vp_of (L := 400) (s_l76 J.1) (by omega) (by omega)) ?_
        refine And.intro (fun c9 => ?_) (fun c9 => ?_)
        · have d10 : ((z_ai M (n + 76) (x2 : Int32).toNatClampNeg)).toInt = 0 := i_eq c9 rfl (show (0 : Int32).toInt = 0 from rfl)
          refine z_nn_of (s_1617_40 J.1) ?_
          refine And.intro (by exact vp_of (L := 2) (s_l94 J.1) (by omega) (by omega)) ?_
          refine z_nn_of (s_1604_40 J.1) ?_
          refine And.intro (by exact vp_of (L := 400) (s_l82 J.1) (by omega) (by omega)) ?_
          refine And.intro (fun c11 => ?_) (fun c11 => ?_)
          · have d12 : ((z_ai M (n + 94) (x1 : Int32).toNatClampNeg)).toInt ≤ ((z_ai M (n + 82) (x2 : Int32).toNatClampNeg)).toInt := i_le c11 rfl rfl
            intro x_1w1 e_x_1w1
            have t_x_1w1 : x_1w1.toInt = ((x2).toInt + 1) := by rw [e_x_1w1]; exact (show ((x2 + 1) : Int32).toInt = ((x2).toInt + 1) from i_addE rfl (show (1 : Int32).toInt = 1 from rfl) (by omega) (by omega))
            exact ih _ _ _ (by omega) (by omega) (by omega) (by omega) (rf_w J (by omega) (by omega) (by omega) (by omega))
          · have d13 : ¬ ((z_ai M (n + 94) (x1 : Int32).toNatClampNeg)).toInt ≤ ((z_ai M (n + 82) (x2 : Int32).toNatClampNeg)).toInt := i_nle c11 rfl rfl
            refine z_nn_of (s_1594_40 J.1) ?_
            refine And.intro (by exact vp_of (L := 400) (s_l72 J.1) (by omega) (by omega)) ?_
            refine And.intro (fun c14 => ?_) (fun c14 => ?_)
            · intro x_1w2 e_x_1w2
              have t_x_1w2 : x_1w2.toInt = ((x2).toInt + 1) := by rw [e_x_1w2]; exact (show ((x2 + 1) : Int32).toInt = ((x2).toInt + 1) from i_addE rfl (show (1 : Int32).toInt = 1 from rfl) (by omega) (by omega))
              exact ih _ _ _ (by omega) (by omega) (by omega) (by omega) (rf_w J (by omega) (by omega) (by omega) (by omega))
            · refine t_X12_loses J (by omega) (fun M_32 J_M_32 => ?_)
              intro x_1w3 e_x_1w3
              have t_x_1w3 : x_1w3.toInt = ((x2).toInt + 1) := by rw [e_x_1w3]; exact (show ((x2 + 1) : Int32).toInt = ((x2).toInt + 1) from i_addE rfl (show (1 : Int32).toInt = 1 from rfl) (by omega) (by omega))
              exact ih _ _ _ (by omega) (by omega) (by omega) (by omega) (rf_w J_M_32 (by omega) (by omega) (by omega) (by omega))
        · have d15 : ¬ ((z_ai M (n + 76) (x2 : Int32).toNatClampNeg)).toInt = 0 := i_ne c9 rfl (show (0 : Int32).toInt = 0 from rfl)
          intro x_1w4 e_x_1w4
          have t_x_1w4 : x_1w4.toInt = ((x2).toInt + 1) := by rw [e_x_1w4]; exact (show ((x2 + 1) : Int32).toInt = ((x2).toInt + 1) from i_addE rfl (show (1 : Int32).toInt = 1 from rfl) (by omega) (by omega))
          exact ih _ _ _ (by omega) (by omega) (by omega) (by omega) (rf_w J (by omega) (by omega) (by omega) (by omega))
      · have b16 := a_71 J (x2 : Int32).toNatClampNeg
        have d17 : ¬ ((z_ai M (n + 71) (x2 : Int32).toNatClampNeg)).toInt = (x1).toInt := i_ne c6 rfl rfl
        intro x_1w5 e_x_1w5
        have t_x_1w5 : x_1w5.toInt = ((x2).toInt + 1) := by rw [e_x_1w5]; exact (show ((x2 + 1) : Int32).toInt = ((x2).toInt + 1) from i_addE rfl (show (1 : Int32).toInt = 1 from rfl) (by omega) (by omega))
        exact ih _ _ _ (by omega) (by omega) (by omega) (by omega) (rf_w J (by omega) (by omega) (by omega) (by omega))
theorem t_X12_losesByTime {n t s q z : Nat} {M0 : z_Mem} {p1 : Int32} {M : z_Mem} {Post : z_Mem → Prop} (J : rf_J n t s q z M0 M) (h_p1 : 0 ≤ p1.toInt ∧ p1.toInt ≤ 1) (k : ∀ M1, rf_J n t s q z M0 M1 → Post M1) : P_X12_losesByTime (n + 40) p1 M Post := by
  have T0 : (0 : Int32).toInt = 0 := rfl; have T1 : (1 : Int32).toInt = 1 := rfl; have T2 : (2 : Int32).toInt = 2 := rfl; have T10 : (10 : Int32).toInt = 10 := rfl
  exact ⟨_, t_X12_losesByTime_2 k _ _ _ _ (Nat.lt_succ_self _) (by omega) (by omega) (by decide) (rf_w J (by omega) (by omega) (by omega) (by omega))⟩
theorem t_X12_hearsOf_50 {n t s q z : Nat} {M0 : z_Mem} {Post : z_Mem → Prop} (k : ∀ M1, rf_J n t s q z M0 M1 → Post M1) : ∀ (m : Nat) (x1 : Int32) (x2 : Int32) (x3 : Int32) (M : z_Mem), (200 - x3.toInt).toNat < m → 0 ≤ x1.toInt → x1.toInt ≤ 399 → 0 ≤ x2.toInt → x2.toInt ≤ 1 → 0 ≤ x3.toInt → rf_J n t s q z M0 M → P_X12_hearsOf_50 (n + 40) Post m x1 x2 x3 M := by
  have T0 : (0 : Int32).toInt = 0 := rfl; have T1 : (1 : Int32).toInt = 1 := rfl; have T2 : (2 : Int32).toInt = 2 := rfl; have T10 : (10 : Int32).toInt = 10 := rfl
  intro m
  induction m with
  | zero => intro x1 x2 x3 M h; omega
  | succ m ih =>
    intro x1 x2 x3 M hm f0 f1 f2 f3 f4 J
    refine z_nn_of (s_1597_40 J.1) ?_
    refine And.intro (by exact vp_of (L := 400) (s_l75 J.1) (by omega) (by omega)) ?_
    refine And.intro (fun c1 => ?_) (fun c1 => ?_)
    · have b2 := a_75 J (x1 : Int32).toNatClampNeg
      have d3 : ((z_ai M (n + 75) (x1 : Int32).toNatClampNeg)).toInt ≤ (x3).toInt := i_le c1 rfl rfl
      refine z_nn_of (s_1598_40 J.1) ?_
      refine And.intro (by exact vp_of (L := 400) (s_l76 J.1) (by omega) (by omega)) ?_
      refine And.intro (fun c4 => ?_) (fun c4 => ?_)
      · have d5 : ((z_ai M (n + 76) (x1 : Int32).toNatClampNeg)).toInt = 0 := i_eq c4 rfl (show (0 : Int32).toInt = 0 from rfl)
        refine t_X12_landsz J (by omega) (by decide) (by assumption) (fun M_48 J_M_48 => ?_)
        refine t_X12_grows J_M_48 (by omega) (fun M_49 J_M_49 => ?_)
        exact k _ (rf_w J_M_49 (by omega) (by omega) (by omega) (by omega))
      · have d6 : ¬ ((z_ai M (n + 76) (x1 : Int32).toNatClampNeg)).toInt = 0 := i_ne c4 rfl (show (0 : Int32).toInt = 0 from rfl)
        refine z_nn_of (s_1598_40 J.1) ?_
        refine And.intro (by exact vp_of (L := 400) (s_l76 J.1) (by omega) (by omega)) ?_
        intro M_12 e_M_12
        have J_M_12 := w_76 J e_M_12 (by decide)
        refine z_nn_of (s_1629_40 J_M_12.1) ?_
        refine And.intro (by exact vp_of (L := 6) (s_l106 J_M_12.1) (by rw [(show (1 : Int32).toInt = 1 from rfl)]; omega) (by rw [(show (1 : Int32).toInt = 1 from rfl)]; omega)) ?_
        refine And.intro (by exact vp_of (L := 6) (s_l106 J_M_12.1) (by rw [(show (1 : Int32).toInt = 1 from rfl)]; omega) (by rw [(show (1 : Int32).toInt = 1 from rfl)]; omega)) ?_
        intro M_17 e_M_17
        have J_M_17 := w_sai J_M_12 e_M_17 (by decide +kernel)
        refine z_nn_of (s_1625_40 J_M_17.1) ?_
        refine And.intro (by exact vp_of (L := 2) (s_l102 J_M_17.1) (by omega) (by omega)) ?_
        refine And.intro (fun c7 => ?_) (fun c7 => ?_)
        · have d8 : ((z_ai M_17 (n + 102) (x2 : Int32).toNatClampNeg)).toInt = (x1).toInt := i_eq c7 rfl rfl
          refine z_nn_of (s_1625_40 J_M_17.1) ?_
          refine And.intro (by exact vp_of (L := 2) (s_l102 J_M_17.1) (by omega) (by omega)) ?_
          intro M_25 e_M_25
          have J_M_25 := w_sai J_M_17 e_M_25 (by decide +kernel)
          refine z_nn_of (s_1607_40 J_M_25.1) ?_
          refine And.intro (by exact vp_of (L := 2) (s_l84 J_M_25.1) (by omega) (by omega)) ?_
          refine z_nn_of (s_1626_40 J_M_25.1) ?_
          refine And.intro (by exact vp_of (L := 2) (s_l103 J_M_25.1) (by omega) (by omega)) ?_
          refine t_X12_max J_M_25 (fun x_33 p0_x_33 p1_x_33 p2_x_33 => ?_)
          refine z_nn_of (s_1607_40 J_M_25.1) ?_
          refine And.intro (by exact vp_of (L := 2) (s_l84 J_M_25.1) (by omega) (by omega)) ?_
          intro M_36 e_M_36
          have J_M_36 := w_84 J_M_25 e_M_36 (rf_tb J_M_25 (i_natlt (by omega) (by omega)) p0_x_33 p1_x_33).1 (rf_tb J_M_25 (i_natlt (by omega) (by omega)) p0_x_33 p1_x_33).2
          refine z_nn_of (s_1608_40 J_M_36.1) ?_
          refine And.intro (by exact vp_of (L := 2) (s_l85 J_M_36.1) (by omega) (by omega)) ?_
          refine z_nn_of (s_1627_40 J_M_36.1) ?_
          refine And.intro (by exact vp_of (L := 2) (s_l104 J_M_36.1) (by omega) (by omega)) ?_
          refine t_X12_max J_M_36 (fun x_44 p0_x_44 p1_x_44 p2_x_44 => ?_)
          refine z_nn_of (s_1608_40 J_M_36.1) ?_
          refine And.intro (by exact vp_of (L := 2) (s_l85 J_M_36.1) (by omega) (by omega)) ?_
          intro M_47 e_M_47
          have J_M_47 := w_sai J_M_36 e_M_47 (by decide +kernel)
          exact k _ (rf_w J_M_47 (by omega) (by omega) (by omega) (by omega))
        · have d9 : ¬ ((z_ai M_17 (n + 102) (x2 : Int32).toNatClampNeg)).toInt = (x1).toInt := i_ne c7 rfl rfl
          exact k _ (rf_w J_M_17 (by omega) (by omega) (by omega) (by omega))
    · have b10 := a_75 J (x1 : Int32).toNatClampNeg
      have d11 : ¬ ((z_ai M (n + 75) (x1 : Int32).toNatClampNeg)).toInt ≤ (x3).toInt := i_nle c1 rfl rfl
      refine z_nn_of (s_1595_40 J.1) ?_
      refine And.intro (by exact vp_of (L := 400) (s_l73 J.1) (by omega) (by omega)) ?_
      refine z_nn_of (s_1596_40 J.1) ?_
      refine And.intro (by exact vp_of (L := 400) (s_l74 J.1) (by omega) (by omega)) ?_
      refine z_nn_of (s_1591_40 J.1) ?_
      refine And.intro (by have b12 := a_73 J (x1 : Int32).toNatClampNeg; have b13 := a_74 J (x1 : Int32).toNatClampNeg; have fm := rf_fm J (x1 : Int32).toNatClampNeg; exact vp_of (L := 800) (s_l69 J.1) (by rw [(show ((((200 * (z_ai M (n + 73) (x1 : Int32).toNatClampNeg)) + (z_ai M (n + 74) (x1 : Int32).toNatClampNeg)) + x3) : Int32).toInt = (((200 * ((z_ai M (n + 73) (x1 : Int32).toNatClampNeg)).toInt) + ((z_ai M (n + 74) (x1 : Int32).toNatClampNeg)).toInt) + (x3).toInt) from i_addE (show (((200 * (z_ai M (n + 73) (x1 : Int32).toNatClampNeg)) + (z_ai M (n + 74) (x1 : Int32).toNatClampNeg)) : Int32).toInt = ((200 * ((z_ai M (n + 73) (x1 : Int32).toNatClampNeg)).toInt) + ((z_ai M (n + 74) (x1 : Int32).toNatClampNeg)).toInt) from i_addE (show ((200 * (z_ai M (n + 73) (x1 : Int32).toNatClampNeg)) : Int32).toInt = (200 * ((z_ai M (n + 73) (x1 : Int32).toNatClampNeg)).toInt) from i_mulE (show (200 : Int32).toInt = 200 from rfl) rfl (by omega) (by omega)) rfl (by omega) (by omega)) rfl (by omega) (by omega))]; omega) (by rw [(show ((((200 * (z_ai M (n + 73) (x1 : Int32).toNatClampNeg)) + (z_ai M (n + 74) (x1 : Int32).toNatClampNeg)) + x3) : Int32).toInt = (((200 * ((z_ai M (n + 73) (x1 : Int32).toNatClampNeg)).toInt) + ((z_ai M (n + 74) (x1 : Int32).toNatClampNeg)).toInt) + (x3).toInt) from i_addE (show (((200 * (z_ai M (n + 73) (x1 : Int32).toNatClampNeg)) + (z_ai M (n + 74) (x1 : Int32).toNatClampNeg)) : Int32).toInt = ((200 * ((z_ai M (n + 73) (x1 : Int32).toNatClampNeg)).toInt) + ((z_ai M (n + 74) (x1 : Int32).toNatClampNeg)).toInt) from i_addE (show ((200 * (z_ai M (n + 73) (x1 : Int32).toNatClampNeg)) : Int32).toInt = (200 * ((z_ai M (n + 73) (x1 : Int32).toNatClampNeg)).toInt) from i_mulE (show (200 : Int32).toInt = 200 from rfl) rfl (by omega) (by omega)) rfl (by omega) (by omega)) rfl (by omega) (by omega))]; omega)) ?_
      intro M_59 e_M_59
      have J_M_59 := w_sai J e_M_59 (by decide +kernel)
      intro x_60 e_x_60
      have t_x_60 : x_60.toInt = ((x3).toInt + 1) := by rw [e_x_60]; exact (show ((x3 + 1) : Int32).toInt = ((x3).toInt + 1) from i_addE rfl (show (1 : Int32).toInt = 1 from rfl) (by omega) (by omega))
      exact ih _ _ _ _ (by omega) (by omega) (by omega) (by omega) (by omega) (by omega) (rf_w J_M_59 (by omega) (by omega) (by omega) (by omega))
theorem t_X12_hearsOf {n t s q z : Nat} {M0 : z_Mem} {p1 : Int32} {M : z_Mem} {Post : z_Mem → Prop} (J : rf_J n t s q z M0 M) (h_p1 : 0 ≤ p1.toInt ∧ p1.toInt ≤ 399) (k : ∀ M1, rf_J n t s q z M0 M1 → Post M1) : P_X12_hearsOf (n + 40) p1 M Post := by
  have T0 : (0 : Int32).toInt = 0 := rfl; have T1 : (1 : Int32).toInt = 1 := rfl; have T2 : (2 : Int32).toInt = 2 := rfl; have T10 : (10 : Int32).toInt = 10 := rfl
  refine z_nn_of (s_1593_40 J.1) ?_
  refine And.intro (by exact vp_of (L := 400) (s_l71 J.1) (by omega) (by omega)) ?_
  intro x_76 e_x_76
  have b1 := a_71 J (p1 : Int32).toNatClampNeg
  have t_x_76 : x_76.toInt = ((z_ai M (n + 71) (p1 : Int32).toNatClampNeg)).toInt := by rw [e_x_76]
  refine z_nn_of (s_1598_40 J.1) ?_
  refine And.intro (by exact vp_of (L := 400) (s_l76 J.1) (by omega) (by omega)) ?_
  refine And.intro (fun c2 => ?_) (fun c2 => ?_)
  · have d3 : ((z_ai M (n + 76) (p1 : Int32).toNatClampNeg)).toInt = 0 := i_eq c2 rfl (show (0 : Int32).toInt = 0 from rfl)
    refine z_nn_of (s_1617_40 J.1) ?_
    refine And.intro (by exact vp_of (L := 2) (s_l94 J.1) (by omega) (by omega)) ?_
    refine z_nn_of (s_1604_40 J.1) ?_
    refine And.intro (by exact vp_of (L := 400) (s_l82 J.1) (by omega) (by omega)) ?_
    refine t_X12_max J (fun x_68w1 p0_x_68w1 p1_x_68w1 p2_x_68w1 => ?_)
    refine z_nn_of (s_1617_40 J.1) ?_
    refine And.intro (by exact vp_of (L := 2) (s_l94 J.1) (by omega) (by omega)) ?_
    intro M_71w1 e_M_71w1
    have J_M_71w1 := w_sai J e_M_71w1 (by decide +kernel)
    exact ⟨_, t_X12_hearsOf_50 k _ _ _ _ _ (Nat.lt_succ_self _) (by omega) (by omega) (by omega) (by omega) (by decide) (rf_w J_M_71w1 (by omega) (by omega) (by omega) (by omega))⟩
  · have d4 : ¬ ((z_ai M (n + 76) (p1 : Int32).toNatClampNeg)).toInt = 0 := i_ne c2 rfl (show (0 : Int32).toInt = 0 from rfl)
    refine z_nn_of (s_1598_40 J.1) ?_
    refine And.intro (by exact vp_of (L := 400) (s_l76 J.1) (by omega) (by omega)) ?_
    refine And.intro (fun c5 => ?_) (fun c5 => ?_)
    · have d6 : ((z_ai M (n + 76) (p1 : Int32).toNatClampNeg)).toInt = 2 := i_eq c5 rfl (show (2 : Int32).toInt = 2 from rfl)
      refine z_nn_of (s_1617_40 J.1) ?_
      refine And.intro (by exact vp_of (L := 2) (s_l94 J.1) (by omega) (by omega)) ?_
      refine z_nn_of (s_1604_40 J.1) ?_
      refine And.intro (by exact vp_of (L := 400) (s_l82 J.1) (by omega) (by omega)) ?_
      refine t_X12_max J (fun x_68w2 p0_x_68w2 p1_x_68w2 p2_x_68w2 => ?_)
      refine z_nn_of (s_1617_40 J.1) ?_
      refine And.intro (by exact vp_of (L := 2) (s_l94 J.1) (by omega) (by omega)) ?_
      intro M_71w2 e_M_71w2
      have J_M_71w2 := w_sai J e_M_71w2 (by decide +kernel)
      exact ⟨_, t_X12_hearsOf_50 k _ _ _ _ _ (Nat.lt_succ_self _) (by omega) (by omega) (by omega) (by omega) (by decide) (rf_w J_M_71w2 (by omega) (by omega) (by omega) (by omega))⟩
    · have d7 : ¬ ((z_ai M (n + 76) (p1 : Int32).toNatClampNeg)).toInt = 2 := i_ne c5 rfl (show (2 : Int32).toInt = 2 from rfl)
      exact k _ (rf_w J (by omega) (by omega) (by omega) (by omega))
