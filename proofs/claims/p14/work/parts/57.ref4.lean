/-! ===== THE REFERENCE: packets are sent, probes ===== -/
theorem t_X12_sends_139 {n t s q z : Nat} {M0 : z_Mem} {Post : z_Mem → Prop} {P : Int} (h0 : P < 400) (h1 : 0 ≤ P) (k : ∀ M1, ((z_fi M1 1606 (n + 40)).toInt = P + 1) → rf_J n t s q z M0 M1 → Post M1) : ∀ (m : Nat) (x1 : Int32) (x2 : Int32) (x3 : Int32) (x4 : Int32) (x6 : Int32) (x7 : Int32) (M : z_Mem), (200 - x7.toInt).toNat < m → 0 ≤ x1.toInt → x1.toInt ≤ 1 → 0 ≤ x2.toInt → x2.toInt ≤ 3 → 0 ≤ x3.toInt → x3.toInt + x4.toInt ≤ 200 → 0 ≤ x6.toInt → x6.toInt ≤ 399 → 0 ≤ x7.toInt → (z_fi M 1606 (n + 40)).toInt = P → rf_J n t s q z M0 M → P_X12_sends_139 (n + 40) Post m x1 x2 x3 x4 x6 x7 M := by
  have T0 : (0 : Int32).toInt = 0 := rfl; have T1 : (1 : Int32).toInt = 1 := rfl; have T2 : (2 : Int32).toInt = 2 := rfl; have T10 : (10 : Int32).toInt = 10 := rfl
  intro m
  induction m with
  | zero => intro x1 x2 x3 x4 x6 x7 M h; omega
  | succ m ih =>
    intro x1 x2 x3 x4 x6 x7 M hm f0 f1 f2 f3 f4 f5 f6 f7 f8 f9 J
    refine And.intro (fun c1 => ?_) (fun c1 => ?_)
    · have d2 : (x4).toInt ≤ (x7).toInt := i_le c1 rfl rfl
      intro M_3 e_M_3
      have b3 := f_1606 J
      have J_M_3 := w_1606 J e_M_3 (show (((z_fi M 1606 (n + 40)) + 1) : Int32).toInt = (((z_fi M 1606 (n + 40))).toInt + 1) from i_addE rfl (show (1 : Int32).toInt = 1 from rfl) (by omega) (by omega)) (by rw [(show (((z_fi M 1606 (n + 40)) + 1) : Int32).toInt = (((z_fi M 1606 (n + 40))).toInt + 1) from i_addE rfl (show (1 : Int32).toInt = 1 from rfl) (by omega) (by omega))]; omega)
      refine t_X12_puts J_M_3 (by omega) (by omega) (fun h => absurd h (by decide)) (fun M_4 p0_M_4 J_M_4 => ?_)
      exact k _ (by rw [p0_M_4, e_M_3, rf_ef]; exact i_addE f9 (show (1 : Int32).toInt = 1 from rfl) (by omega) (by omega)) (rf_w J_M_4 (by omega) (by omega) (by omega) (by omega))
    · have d4 : ¬ (x4).toInt ≤ (x7).toInt := i_nle c1 rfl rfl
      refine z_nn_of (s_1592_40 J.1) ?_
      refine And.intro (by exact vp_of (L := 800) (s_l70 J.1) (by rw [(show ((((200 * x2) + x3) + x7) : Int32).toInt = (((200 * (x2).toInt) + (x3).toInt) + (x7).toInt) from i_addE (show (((200 * x2) + x3) : Int32).toInt = ((200 * (x2).toInt) + (x3).toInt) from i_addE (show ((200 * x2) : Int32).toInt = (200 * (x2).toInt) from i_mulE (show (200 : Int32).toInt = 200 from rfl) rfl (by omega) (by omega)) rfl (by omega) (by omega)) rfl (by omega) (by omega))]; omega) (by rw [(show ((((200 * x2) + x3) + x7) : Int32).toInt = (((200 * (x2).toInt) + (x3).toInt) + (x7).toInt) from i_addE (show (((200 * x2) + x3) : Int32).toInt = ((200 * (x2).toInt) + (x3).toInt) from i_addE (show ((200 * x2) : Int32).toInt = (200 * (x2).toInt) from i_mulE (show (200 : Int32).toInt = 200 from rfl) rfl (by omega) (by omega)) rfl (by omega) (by omega)) rfl (by omega) (by omega))]; omega)) ?_
      refine And.intro (by exact vp_of (L := 800) (s_l70 J.1) (by rw [(show ((((200 * x2) + x3) + x7) : Int32).toInt = (((200 * (x2).toInt) + (x3).toInt) + (x7).toInt) from i_addE (show (((200 * x2) + x3) : Int32).toInt = ((200 * (x2).toInt) + (x3).toInt) from i_addE (show ((200 * x2) : Int32).toInt = (200 * (x2).toInt) from i_mulE (show (200 : Int32).toInt = 200 from rfl) rfl (by omega) (by omega)) rfl (by omega) (by omega)) rfl (by omega) (by omega))]; omega) (by rw [(show ((((200 * x2) + x3) + x7) : Int32).toInt = (((200 * (x2).toInt) + (x3).toInt) + (x7).toInt) from i_addE (show (((200 * x2) + x3) : Int32).toInt = ((200 * (x2).toInt) + (x3).toInt) from i_addE (show ((200 * x2) : Int32).toInt = (200 * (x2).toInt) from i_mulE (show (200 : Int32).toInt = 200 from rfl) rfl (by omega) (by omega)) rfl (by omega) (by omega)) rfl (by omega) (by omega))]; omega)) ?_
      intro M_9 e_M_9
      have J_M_9 := w_sai J e_M_9 (by decide +kernel)
      intro x_10 e_x_10
      have t_x_10 : x_10.toInt = ((x7).toInt + 1) := by rw [e_x_10]; exact (show ((x7 + 1) : Int32).toInt = ((x7).toInt + 1) from i_addE rfl (show (1 : Int32).toInt = 1 from rfl) (by omega) (by omega))
      exact ih _ _ _ _ _ _ _ (by omega) (by omega) (by omega) (by omega) (by omega) (by omega) (by omega) (by omega) (by omega) (by omega) (by subst_vars; rfl) (rf_w J_M_9 (by omega) (by omega) (by omega) (by omega))
theorem t_X12_sends {n t s q z : Nat} {M0 : z_Mem} {p1 : Int32} {p2 : Int32} {p3 : Int32} {p4 : Int32} {p5 : Int32} {M : z_Mem} {Post : z_Mem → Prop} (J : rf_J n t s q z M0 M) (h_p1 : 0 ≤ p1.toInt ∧ p1.toInt ≤ 1) (h_p2 : 0 ≤ p2.toInt ∧ p2.toInt ≤ 3) (h_p3 : 0 ≤ p3.toInt ∧ p3.toInt ≤ 200) (h_p4 : 0 ≤ p4.toInt ∧ p4.toInt ≤ 200) (h0 : p3.toInt + p4.toInt ≤ 200) (h1 : (z_fi M 1606 (n + 40)).toInt < 400) (k : ∀ M1, ((z_fi M1 1606 (n + 40)).toInt = (z_fi M 1606 (n + 40)).toInt + 1) → rf_J n t s q z M0 M1 → Post M1) : P_X12_sends (n + 40) p1 p2 p3 p4 p5 M Post := by
  have T0 : (0 : Int32).toInt = 0 := rfl; have T1 : (1 : Int32).toInt = 1 := rfl; have T2 : (2 : Int32).toInt = 2 := rfl; have T10 : (10 : Int32).toInt = 10 := rfl
  intro x_40 e_x_40
  have b1 := f_1606 J
  have t_x_40 : x_40.toInt = ((z_fi M 1606 (n + 40))).toInt := by rw [e_x_40]
  refine z_nn_of (s_1593_40 J.1) ?_
  refine And.intro (by exact vp_of (L := 400) (s_l71 J.1) (by omega) (by omega)) ?_
  intro M_44 e_M_44
  have J_M_44 := w_71 J e_M_44 (by omega) (by omega)
  refine z_nn_of (s_1594_40 J_M_44.1) ?_
  refine And.intro (by exact vp_of (L := 400) (s_l72 J_M_44.1) (by omega) (by omega)) ?_
  intro M_49 e_M_49
  have J_M_49 := w_72 J_M_44 e_M_49 (by have := f_1536 J_M_44; omega) (Int.le_refl _)
  refine z_nn_of (s_1595_40 J_M_49.1) ?_
  refine And.intro (by exact vp_of (L := 400) (s_l73 J_M_49.1) (by omega) (by omega)) ?_
  intro M_53 e_M_53
  have J_M_53 := w_73 J_M_49 e_M_53 (by omega) (by omega)
  refine z_nn_of (s_1596_40 J_M_53.1) ?_
  refine And.intro (by exact vp_of (L := 400) (s_l74 J_M_53.1) (by omega) (by omega)) ?_
  intro M_57 e_M_57
  have J_M_57 := (⟨by rw [e_M_57]; exact S_sai J_M_53.1, trivial⟩ : y_S n M_57 ∧ True)
  refine z_nn_of (s_1597_40 J_M_57.1) ?_
  refine And.intro (by exact vp_of (L := 400) (s_l75 J_M_57.1) (by omega) (by omega)) ?_
  intro M_61 e_M_61
  have J_M_61 := w_7475 J_M_53 e_M_57 e_M_61 rfl (by omega) (by omega) (by omega)
  refine z_nn_of (s_1600_40 J_M_61.1) ?_
  refine And.intro (by exact vp_of (L := 400) (s_l78 J_M_61.1) (by omega) (by omega)) ?_
  intro M_66 e_M_66
  have J_M_66 := w_sai J_M_61 e_M_66 (by decide +kernel)
  refine z_nn_of (s_1601_40 J_M_66.1) ?_
  refine And.intro (by exact vp_of (L := 400) (s_l79 J_M_66.1) (by omega) (by omega)) ?_
  intro M_70 e_M_70
  have J_M_70 := w_sai J_M_66 e_M_70 (by decide +kernel)
  refine And.intro (fun c2 => ?_) (fun c2 => ?_)
  · have d3 : ((z_fi M_70 1577 (n + 40))).toInt = 1 := i_eq c2 rfl (show (1 : Int32).toInt = 1 from rfl)
    refine z_nn_of (s_1602_40 J_M_70.1) ?_
    refine And.intro (by exact vp_of (L := 400) (s_l80 J_M_70.1) (by omega) (by omega)) ?_
    intro M_13w1 e_M_13w1
    have J_M_13w1 := w_sai J_M_70 e_M_13w1 (by decide +kernel)
    refine z_nn_of (s_1616_40 J_M_13w1.1) ?_
    refine And.intro (by exact vp_of (L := 2) (s_l93 J_M_13w1.1) (by omega) (by omega)) ?_
    refine z_nn_of (s_1604_40 J_M_13w1.1) ?_
    refine And.intro (by exact vp_of (L := 400) (s_l82 J_M_13w1.1) (by omega) (by omega)) ?_
    intro M_20w1 e_M_20w1
    have J_M_20w1 := w_sai J_M_13w1 e_M_20w1 (by decide +kernel)
    refine z_nn_of (s_1616_40 J_M_20w1.1) ?_
    refine And.intro (by exact vp_of (L := 2) (s_l93 J_M_20w1.1) (by omega) (by omega)) ?_
    refine And.intro (by exact vp_of (L := 2) (s_l93 J_M_20w1.1) (by omega) (by omega)) ?_
    intro M_25w1 e_M_25w1
    have J_M_25w1 := w_sai J_M_20w1 e_M_25w1 (by decide +kernel)
    refine z_nn_of (s_1620_40 J_M_25w1.1) ?_
    refine And.intro (by exact vp_of (L := 2) (s_l97 J_M_25w1.1) (by omega) (by omega)) ?_
    refine z_nn_of (s_1605_40 J_M_25w1.1) ?_
    refine And.intro (by exact vp_of (L := 400) (s_l83 J_M_25w1.1) (by omega) (by omega)) ?_
    intro M_32w1 e_M_32w1
    have J_M_32w1 := w_83 J_M_25w1 e_M_32w1 (by have b4 := a_97 J_M_25w1 (p1 : Int32).toNatClampNeg; omega) (by have b4 := a_97 J_M_25w1 (p1 : Int32).toNatClampNeg; omega)
    refine z_nn_of (s_1618_40 J_M_32w1.1) ?_
    refine And.intro (by exact vp_of (L := 2) (s_l95 J_M_32w1.1) (by omega) (by omega)) ?_
    intro M_37w1 e_M_37w1
    have J_M_37w1 := w_sai J_M_32w1 e_M_37w1 (by decide +kernel)
    exact ⟨_, t_X12_sends_139 h1 (by omega) k _ _ _ _ _ _ _ _ (Nat.lt_succ_self _) (by omega) (by omega) (by omega) (by omega) (by omega) (by omega) (by omega) (by omega) (by decide) (by first | (simp only [e_M_37w1, e_M_32w1, e_M_25w1, e_M_20w1, e_M_13w1, e_M_70, e_M_66, e_M_61, e_M_57, e_M_53, e_M_49, e_M_44, zq_fi_sai]) | (simp only [e_M_37w2, e_M_32w2, e_M_25w2, e_M_20w2, e_M_13w2, e_M_70, e_M_66, e_M_61, e_M_57, e_M_53, e_M_49, e_M_44, zq_fi_sai])) (rf_w J_M_37w1 (by omega) (by omega) (by omega) (by omega))⟩
  · have d5 : ¬ ((z_fi M_70 1577 (n + 40))).toInt = 1 := i_ne c2 rfl (show (1 : Int32).toInt = 1 from rfl)
    refine z_nn_of (s_1602_40 J_M_70.1) ?_
    refine And.intro (by exact vp_of (L := 400) (s_l80 J_M_70.1) (by omega) (by omega)) ?_
    intro M_13w2 e_M_13w2
    have J_M_13w2 := w_sai J_M_70 e_M_13w2 (by decide +kernel)
    refine z_nn_of (s_1616_40 J_M_13w2.1) ?_
    refine And.intro (by exact vp_of (L := 2) (s_l93 J_M_13w2.1) (by omega) (by omega)) ?_
    refine z_nn_of (s_1604_40 J_M_13w2.1) ?_
    refine And.intro (by exact vp_of (L := 400) (s_l82 J_M_13w2.1) (by omega) (by omega)) ?_
    intro M_20w2 e_M_20w2
    have J_M_20w2 := w_sai J_M_13w2 e_M_20w2 (by decide +kernel)
    refine z_nn_of (s_1616_40 J_M_20w2.1) ?_
    refine And.intro (by exact vp_of (L := 2) (s_l93 J_M_20w2.1) (by omega) (by omega)) ?_
    refine And.intro (by exact vp_of (L := 2) (s_l93 J_M_20w2.1) (by omega) (by omega)) ?_
    intro M_25w2 e_M_25w2
    have J_M_25w2 := w_sai J_M_20w2 e_M_25w2 (by decide +kernel)
    refine z_nn_of (s_1620_40 J_M_25w2.1) ?_
    refine And.intro (by exact vp_of (L := 2) (s_l97 J_M_25w2.1) (by omega) (by omega)) ?_
    refine z_nn_of (s_1605_40 J_M_25w2.1) ?_
    refine And.intro (by exact vp_of (L := 400) (s_l83 J_M_25w2.1) (by omega) (by omega)) ?_
    intro M_32w2 e_M_32w2
    have J_M_32w2 := w_83 J_M_25w2 e_M_32w2 (by have b6 := a_97 J_M_25w2 (p1 : Int32).toNatClampNeg; omega) (by have b6 := a_97 J_M_25w2 (p1 : Int32).toNatClampNeg; omega)
    refine z_nn_of (s_1618_40 J_M_32w2.1) ?_
    refine And.intro (by exact vp_of (L := 2) (s_l95 J_M_32w2.1) (by omega) (by omega)) ?_
    intro M_37w2 e_M_37w2
    have J_M_37w2 := w_sai J_M_32w2 e_M_37w2 (by decide +kernel)
    exact ⟨_, t_X12_sends_139 h1 (by omega) k _ _ _ _ _ _ _ _ (Nat.lt_succ_self _) (by omega) (by omega) (by omega) (by omega) (by omega) (by omega) (by omega) (by omega) (by decide) (by first | (simp only [e_M_37w1, e_M_32w1, e_M_25w1, e_M_20w1, e_M_13w1, e_M_70, e_M_66, e_M_61, e_M_57, e_M_53, e_M_49, e_M_44, zq_fi_sai]) | (simp only [e_M_37w2, e_M_32w2, e_M_25w2, e_M_20w2, e_M_13w2, e_M_70, e_M_66, e_M_61, e_M_57, e_M_53, e_M_49, e_M_44, zq_fi_sai])) (rf_w J_M_37w2 (by omega) (by omega) (by omega) (by omega))⟩
theorem t_X12_probesOn_88 {n t s q z : Nat} {M0 : z_Mem} {Post : z_Mem → Prop} {x1 : Int32} {x2 : Int32} {t0 : Int32} {t1 : Int32} {M : z_Mem} (J : rf_J n t s q z M0 M) (h_x1 : 0 ≤ x1.toInt ∧ x1.toInt ≤ 1) (h_x2 : -1 ≤ x2.toInt ∧ x2.toInt ≤ 399) (k : ∀ M1, rf_J n t s q z M0 M1 → Post M1) : P_X12_probesOn_88 (n + 40) Post x1 x2 t0 t1 M := by
  have T0 : (0 : Int32).toInt = 0 := rfl; have T1 : (1 : Int32).toInt = 1 := rfl; have T2 : (2 : Int32).toInt = 2 := rfl; have T10 : (10 : Int32).toInt = 10 := rfl
  intro x_2 e_x_2
  refine And.intro (fun c1 => ?_) (fun c1 => ?_)
  · have d2 : (x2).toInt = (-1) := i_eq c1 rfl (show (-1 : Int32).toInt = -1 from rfl)
    exact k _ (rf_w J (by omega) (by omega) (by omega) (by omega))
  · have d3 : ¬ (x2).toInt = (-1) := i_ne c1 rfl (show (-1 : Int32).toInt = -1 from rfl)
    refine And.intro (fun c4 => ?_) (fun c4 => ?_)
    · have b5 := f_1606 J
      have d6 : 400 ≤ ((z_fi M 1606 (n + 40))).toInt := i_le c4 (show (400 : Int32).toInt = 400 from rfl) rfl
      exact k _ (rf_w J (by omega) (by omega) (by omega) (by omega))
    · have b7 := f_1606 J
      have d8 : ¬ 400 ≤ ((z_fi M 1606 (n + 40))).toInt := i_nle c4 (show (400 : Int32).toInt = 400 from rfl) rfl
      refine z_nn_of (s_1618_40 J.1) ?_
      refine And.intro (by exact vp_of (L := 2) (s_l95 J.1) (by omega) (by omega)) ?_
      refine And.intro (fun c9 => ?_) (fun c9 => ?_)
      · exact k _ (rf_w J (by omega) (by omega) (by omega) (by omega))
      · refine z_nn_of (s_1619_40 J.1) ?_
        refine And.intro (by exact vp_of (L := 2) (s_l96 J.1) (by omega) (by omega)) ?_
        refine And.intro (by exact vp_of (L := 2) (s_l96 J.1) (by omega) (by omega)) ?_
        intro M_15 e_M_15
        have J_M_15 := w_sai J e_M_15 (by decide +kernel)
        refine z_nn_of (s_1629_40 J_M_15.1) ?_
        refine And.intro (by exact vp_of (L := 6) (s_l106 J_M_15.1) (by rw [(show (2 : Int32).toInt = 2 from rfl)]; omega) (by rw [(show (2 : Int32).toInt = 2 from rfl)]; omega)) ?_
        refine And.intro (by exact vp_of (L := 6) (s_l106 J_M_15.1) (by rw [(show (2 : Int32).toInt = 2 from rfl)]; omega) (by rw [(show (2 : Int32).toInt = 2 from rfl)]; omega)) ?_
        intro M_20 e_M_20
        have J_M_20 := w_sai J_M_15 e_M_20 (by decide +kernel)
        refine z_nn_of (s_1595_40 J_M_20.1) ?_
        refine And.intro (by exact vp_of (L := 400) (s_l73 J_M_20.1) (by omega) (by omega)) ?_
        refine z_nn_of (s_1596_40 J_M_20.1) ?_
        refine And.intro (by exact vp_of (L := 400) (s_l74 J_M_20.1) (by omega) (by omega)) ?_
        refine z_nn_of (s_1597_40 J_M_20.1) ?_
        refine And.intro (by exact vp_of (L := 400) (s_l75 J_M_20.1) (by omega) (by omega)) ?_
        refine t_X12_sends J_M_20 (by omega) (by have b10 := a_73 J_M_20 (x2 : Int32).toNatClampNeg; omega) (by have b11 := a_74 J_M_20 (x2 : Int32).toNatClampNeg; omega) (by have b12 := a_75 J_M_20 (x2 : Int32).toNatClampNeg; omega) (rf_fm J_M_20 _) (by simp only [e_M_20, e_M_15, zq_fi_sai]; omega) (fun M_30 p0_M_30 J_M_30 => ?_)
        exact k _ (rf_w J_M_30 (by omega) (by omega) (by omega) (by omega))
theorem t_X12_probesOn_9 {n t s q z : Nat} {M0 : z_Mem} {Post : z_Mem → Prop} (k : ∀ M1, rf_J n t s q z M0 M1 → Post M1) : ∀ (m : Nat) (x1 : Int32) (x2 : Int32) (x3 : Int32) (M : z_Mem), (x3.toInt + 1).toNat < m → 0 ≤ x1.toInt → x1.toInt ≤ 1 → -1 ≤ x2.toInt → x2.toInt ≤ 399 → -1 ≤ x3.toInt → x3.toInt ≤ 399 → rf_J n t s q z M0 M → P_X12_probesOn_9 (n + 40) Post m x1 x2 x3 M := by
  have T0 : (0 : Int32).toInt = 0 := rfl; have T1 : (1 : Int32).toInt = 1 := rfl; have T2 : (2 : Int32).toInt = 2 := rfl; have T10 : (10 : Int32).toInt = 10 := rfl
  intro m
  induction m with
  | zero => intro x1 x2 x3 M h; omega
  | succ m ih =>
    intro x1 x2 x3 M hm f0 f1 f2 f3 f4 f5 J
    refine And.intro (fun c1 => ?_) (fun c1 => ?_)
    · have d2 : (x3).toInt < 0 := i_lt c1 rfl (show (0 : Int32).toInt = 0 from rfl)
      refine z_nn_of (s_1610_40 J.1) ?_
      refine And.intro (by exact vp_of (L := 2) (s_l87 J.1) (by omega) (by omega)) ?_
      refine z_nn_of (s_1611_40 J.1) ?_
      refine And.intro (by exact vp_of (L := 2) (s_l88 J.1) (by omega) (by omega)) ?_
      refine t_X12_max J (fun x_38 p0_x_38 p1_x_38 p2_x_38 => ?_)
      refine z_nn_of (s_1619_40 J.1) ?_
      refine And.intro (by exact vp_of (L := 2) (s_l96 J.1) (by omega) (by omega)) ?_
      refine And.intro (fun c3 => ?_) (fun c3 => ?_)
      · have d4 : ((z_ai M (n + 96) (x1 : Int32).toNatClampNeg)).toInt ≤ 6 := i_le c3 rfl (show (6 : Int32).toInt = 6 from rfl)
        refine z_nn_of (s_1619_40 J.1) ?_
        refine And.intro (by exact vp_of (L := 2) (s_l96 J.1) (by omega) (by omega)) ?_
        exact t_X12_probesOn_88 J (by omega) (by omega) k
      · have d5 : ¬ ((z_ai M (n + 96) (x1 : Int32).toNatClampNeg)).toInt ≤ 6 := i_nle c3 rfl (show (6 : Int32).toInt = 6 from rfl)
        exact t_X12_probesOn_88 J (by omega) (by omega) k
    · have d6 : ¬ (x3).toInt < 0 := i_nlt c1 rfl (show (0 : Int32).toInt = 0 from rfl)
      refine z_nn_of (s_1593_40 J.1) ?_
      refine And.intro (by exact vp_of (L := 400) (s_l71 J.1) (by omega) (by omega)) ?_
      refine And.intro (fun c7 => ?_) (fun c7 => ?_)
      · have b8 := a_71 J (x3 : Int32).toNatClampNeg
        have d9 : ((z_ai M (n + 71) (x3 : Int32).toNatClampNeg)).toInt = (x1).toInt := i_eq c7 rfl rfl
        refine z_nn_of (s_1598_40 J.1) ?_
        refine And.intro (by exact vp_of (L := 400) (s_l76 J.1) (by omega) (by omega)) ?_
        refine And.intro (fun c10 => ?_) (fun c10 => ?_)
        · have d11 : ((z_ai M (n + 76) (x3 : Int32).toNatClampNeg)).toInt = 0 := i_eq c10 rfl (show (0 : Int32).toInt = 0 from rfl)
          intro x_1w1 e_x_1w1
          have t_x_1w1 : x_1w1.toInt = ((x3).toInt + (-1)) := by rw [e_x_1w1]; exact (show ((x3 + (-1)) : Int32).toInt = ((x3).toInt + (-1)) from i_addE rfl (show (-1 : Int32).toInt = -1 from rfl) (by omega) (by omega))
          exact ih _ _ _ _ (by omega) (by omega) (by omega) (by omega) (by omega) (by omega) (by omega) (rf_w J (by omega) (by omega) (by omega) (by omega))
        · have d12 : ¬ ((z_ai M (n + 76) (x3 : Int32).toNatClampNeg)).toInt = 0 := i_ne c10 rfl (show (0 : Int32).toInt = 0 from rfl)
          intro x_1w3 e_x_1w3
          have t_x_1w3 : x_1w3.toInt = ((x3).toInt + (-1)) := by rw [e_x_1w3]; exact (show ((x3 + (-1)) : Int32).toInt = ((x3).toInt + (-1)) from i_addE rfl (show (-1 : Int32).toInt = -1 from rfl) (by omega) (by omega))
          exact ih _ _ _ _ (by omega) (by omega) (by omega) (by omega) (by omega) (by omega) (by omega) (rf_w J (by omega) (by omega) (by omega) (by omega))
      · have b13 := a_71 J (x3 : Int32).toNatClampNeg
        have d14 : ¬ ((z_ai M (n + 71) (x3 : Int32).toNatClampNeg)).toInt = (x1).toInt := i_ne c7 rfl rfl
        intro x_1w5 e_x_1w5
        have t_x_1w5 : x_1w5.toInt = ((x3).toInt + (-1)) := by rw [e_x_1w5]; exact (show ((x3 + (-1)) : Int32).toInt = ((x3).toInt + (-1)) from i_addE rfl (show (-1 : Int32).toInt = -1 from rfl) (by omega) (by omega))
        exact ih _ _ _ _ (by omega) (by omega) (by omega) (by omega) (by omega) (by omega) (by omega) (rf_w J (by omega) (by omega) (by omega) (by omega))
theorem t_X12_probesOn {n t s q z : Nat} {M0 : z_Mem} {p1 : Int32} {M : z_Mem} {Post : z_Mem → Prop} (J : rf_J n t s q z M0 M) (h_p1 : 0 ≤ p1.toInt ∧ p1.toInt ≤ 1) (k : ∀ M1, rf_J n t s q z M0 M1 → Post M1) : P_X12_probesOn (n + 40) p1 M Post := by
  have T0 : (0 : Int32).toInt = 0 := rfl; have T1 : (1 : Int32).toInt = 1 := rfl; have T2 : (2 : Int32).toInt = 2 := rfl; have T10 : (10 : Int32).toInt = 10 := rfl
  intro x_55 e_x_55
  have b1 := f_1606 J
  have t_x_55 : x_55.toInt = (((z_fi M 1606 (n + 40))).toInt - 1) := by rw [e_x_55]; exact (show (((z_fi M 1606 (n + 40)) - 1) : Int32).toInt = (((z_fi M 1606 (n + 40))).toInt - 1) from i_subE rfl (show (1 : Int32).toInt = 1 from rfl) (by omega) (by omega))
  exact ⟨_, t_X12_probesOn_9 k _ _ _ _ _ (Nat.lt_succ_self _) (by omega) (by omega) (by decide) (by decide) (by omega) (by omega) (rf_w J (by omega) (by omega) (by omega) (by omega))⟩
