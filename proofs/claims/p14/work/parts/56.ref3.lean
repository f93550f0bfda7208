/-! ===== THE REFERENCE: the client ===== -/
theorem t_X12_puts {n t s q z : Nat} {M0 : z_Mem} {p1 : Int32} {p2 : Int32} {p3 : Int32} {M : z_Mem} {Post : z_Mem → Prop} (J : rf_J n (t + 1) (s + 1) (q + 1) z M0 M) (h_p1 : 0 ≤ p1.toInt ∧ p1.toInt ≤ 1) (h_p3 : 0 ≤ p3.toInt ∧ p3.toInt ≤ 399) (h0 : p2 = 1 → p3.toInt ≤ 21) (k : ∀ M1, (z_fi M1 1606 (n + 40) = z_fi M 1606 (n + 40)) → rf_J n t s q z M0 M1 → Post M1) : P_X12_puts (n + 40) p1 p2 p3 M Post := by
  have T0 : (0 : Int32).toInt = 0 := rfl; have T1 : (1 : Int32).toInt = 1 := rfl; have T2 : (2 : Int32).toInt = 2 := rfl; have T10 : (10 : Int32).toInt = 10 := rfl
  refine z_nn_of (s_1541_40 J.1) ?_
  refine And.intro (by exact vp_of (L := 2) (s_l45 J.1) (by omega) (by omega)) ?_
  intro x_60 e_x_60
  have t_x_60 : x_60.toInt = ((z_ai M (n + 45) (p1 : Int32).toNatClampNeg)).toInt := by rw [e_x_60]
  refine And.intro (fun c1 => ?_) (fun c1 => ?_)
  · have d2 : (x_60).toInt = 0 := i_eq c1 rfl (show (0 : Int32).toInt = 0 from rfl)
    refine z_nn_of (s_1542_40 J.1) ?_
    refine And.intro (by exact vp_of (L := 2) (s_l46 J.1) (by omega) (by omega)) ?_
    refine And.intro (fun c3 => ?_) (fun c3 => ?_)
    · have d4 : ((z_ai M (n + 46) (p1 : Int32).toNatClampNeg)).toInt ≤ 0 := i_le c3 rfl (show (0 : Int32).toInt = 0 from rfl)
      refine And.intro (fun c5 => ?_) (fun c5 => ?_)
      · have d6 : (x_60).toInt = 0 := i_eq c5 rfl (show (0 : Int32).toInt = 0 from rfl)
        refine z_nn_of (s_1547_40 J.1) ?_
        refine And.intro (by exact vp_of (L := 2) (s_l51 J.1) (by omega) (by omega)) ?_
        refine z_nn_of (s_1539_40 J.1) ?_
        refine And.intro (by exact vp_of (L := 2) (s_l43 J.1) (by omega) (by omega)) ?_
        refine And.intro (fun c7 => ?_) (fun c7 => ?_)
        · have b8 := a_51 J (p1 : Int32).toNatClampNeg
          have b9 := a_43 J (p1 : Int32).toNatClampNeg
          have d10 : ((z_ai M (n + 51) (p1 : Int32).toNatClampNeg)).toInt < ((z_ai M (n + 43) (p1 : Int32).toNatClampNeg)).toInt := i_lt c7 rfl rfl
          refine And.intro (fun c11 => ?_) (fun c11 => ?_)
          · refine And.intro (fun c12 => ?_) (fun c12 => ?_)
            · have d13 : (p2).toInt = 2 := i_eq c12 rfl (show (2 : Int32).toInt = 2 from rfl)
              refine z_nn_of (s_1547_40 J.1) ?_
              refine And.intro (by exact vp_of (L := 2) (s_l51 J.1) (by omega) (by omega)) ?_
              refine z_nn_of (s_1540_40 J.1) ?_
              refine And.intro (by exact vp_of (L := 2) (s_l44 J.1) (by omega) (by omega)) ?_
              refine And.intro (fun c14 => ?_) (fun c14 => ?_)
              · have b15 := a_51 J (p1 : Int32).toNatClampNeg
                have d16 : ((z_ai M (n + 51) (p1 : Int32).toNatClampNeg)).toInt < ((z_ai M (n + 44) (p1 : Int32).toNatClampNeg)).toInt := i_lt c14 rfl rfl
                refine z_nn_of (s_1603_40 J.1) ?_
                refine And.intro (by exact vp_of (L := 400) (s_l81 J.1) (by omega) (by omega)) ?_
                intro M_33w3 e_M_33w3
                have J_M_33w3 := w_sai J e_M_33w3 (by decide +kernel)
                exact t_X12_puts_111 J_M_33w3 (by omega) (by omega) h0 (by subst_vars; first | omega | (simp only [rf_na (show (51 : Nat) ≠ 81 by decide)]; omega)) (fun M1 p0 J1 => k M1 (p0.trans (by subst_vars; rfl)) J1)
              · have b17 := a_51 J (p1 : Int32).toNatClampNeg
                have d18 : ¬ ((z_ai M (n + 51) (p1 : Int32).toNatClampNeg)).toInt < ((z_ai M (n + 44) (p1 : Int32).toNatClampNeg)).toInt := i_nlt c14 rfl rfl
                refine z_nn_of (s_1603_40 J.1) ?_
                refine And.intro (by exact vp_of (L := 400) (s_l81 J.1) (by omega) (by omega)) ?_
                intro M_33w4 e_M_33w4
                have J_M_33w4 := w_sai J e_M_33w4 (by decide +kernel)
                exact t_X12_puts_111 J_M_33w4 (by omega) (by omega) h0 (by subst_vars; first | omega | (simp only [rf_na (show (51 : Nat) ≠ 81 by decide)]; omega)) (fun M1 p0 J1 => k M1 (p0.trans (by subst_vars; rfl)) J1)
            · have d19 : ¬ (p2).toInt = 2 := i_ne c12 rfl (show (2 : Int32).toInt = 2 from rfl)
              exact t_X12_puts_111 J (by omega) (by omega) h0 (by subst_vars; first | omega | (simp only [rf_na (show (51 : Nat) ≠ 81 by decide)]; omega)) (fun M1 p0 J1 => k M1 (p0.trans (by subst_vars; rfl)) J1)
          · exact absurd rfl c11
        · have b20 := a_51 J (p1 : Int32).toNatClampNeg
          have b21 := a_43 J (p1 : Int32).toNatClampNeg
          have d22 : ¬ ((z_ai M (n + 51) (p1 : Int32).toNatClampNeg)).toInt < ((z_ai M (n + 43) (p1 : Int32).toNatClampNeg)).toInt := i_nlt c7 rfl rfl
          refine And.intro (fun c23 => ?_) (fun c23 => ?_)
          · exact absurd c23 (by decide)
          · refine And.intro (fun c24 => ?_) (fun c24 => ?_)
            · have d25 : (p2).toInt = 2 := i_eq c24 rfl (show (2 : Int32).toInt = 2 from rfl)
              refine z_nn_of (s_1599_40 J.1) ?_
              refine And.intro (by exact vp_of (L := 400) (s_l77 J.1) (by omega) (by omega)) ?_
              intro M_48w6 e_M_48w6
              have J_M_48w6 := w_sai J e_M_48w6 (by decide +kernel)
              exact k _ (by subst_vars; rfl) (rf_w J_M_48w6 (by omega) (by omega) (by omega) (by omega))
            · have d26 : ¬ (p2).toInt = 2 := i_ne c24 rfl (show (2 : Int32).toInt = 2 from rfl)
              exact k _ (by subst_vars; rfl) (rf_w J (by omega) (by omega) (by omega) (by omega))
      · have d27 : ¬ (x_60).toInt = 0 := i_ne c5 rfl (show (0 : Int32).toInt = 0 from rfl)
        refine And.intro (fun c28 => ?_) (fun c28 => ?_)
        · exact absurd c28 (by decide)
        · refine And.intro (fun c29 => ?_) (fun c29 => ?_)
          · have d30 : (p2).toInt = 2 := i_eq c29 rfl (show (2 : Int32).toInt = 2 from rfl)
            refine z_nn_of (s_1599_40 J.1) ?_
            refine And.intro (by exact vp_of (L := 400) (s_l77 J.1) (by omega) (by omega)) ?_
            intro M_48w8 e_M_48w8
            have J_M_48w8 := w_sai J e_M_48w8 (by decide +kernel)
            exact k _ (by subst_vars; rfl) (rf_w J_M_48w8 (by omega) (by omega) (by omega) (by omega))
          · have d31 : ¬ (p2).toInt = 2 := i_ne c29 rfl (show (2 : Int32).toInt = 2 from rfl)
            exact k _ (by subst_vars; rfl) (rf_w J (by omega) (by omega) (by omega) (by omega))
    · have d32 : ¬ ((z_ai M (n + 46) (p1 : Int32).toNatClampNeg)).toInt ≤ 0 := i_nle c3 rfl (show (0 : Int32).toInt = 0 from rfl)
      refine z_nn_of (s_1542_40 J.1) ?_
      refine And.intro (by exact vp_of (L := 2) (s_l46 J.1) (by omega) (by omega)) ?_
      refine And.intro (by exact vp_of (L := 2) (s_l46 J.1) (by omega) (by omega)) ?_
      intro M_70 e_M_70
      have J_M_70 := w_sai J e_M_70 (by decide +kernel)
      refine And.intro (fun c33 => ?_) (fun c33 => ?_)
      · exact absurd c33 (by decide)
      · refine And.intro (fun c34 => ?_) (fun c34 => ?_)
        · exact absurd c34 (by decide)
        · refine And.intro (fun c35 => ?_) (fun c35 => ?_)
          · have d36 : (p2).toInt = 2 := i_eq c35 rfl (show (2 : Int32).toInt = 2 from rfl)
            refine z_nn_of (s_1599_40 J_M_70.1) ?_
            refine And.intro (by exact vp_of (L := 400) (s_l77 J_M_70.1) (by omega) (by omega)) ?_
            intro M_48w11 e_M_48w11
            have J_M_48w11 := w_sai J_M_70 e_M_48w11 (by decide +kernel)
            exact k _ (by subst_vars; rfl) (rf_w J_M_48w11 (by omega) (by omega) (by omega) (by omega))
          · have d37 : ¬ (p2).toInt = 2 := i_ne c35 rfl (show (2 : Int32).toInt = 2 from rfl)
            exact k _ (by subst_vars; rfl) (rf_w J_M_70 (by omega) (by omega) (by omega) (by omega))
  · have d38 : ¬ (x_60).toInt = 0 := i_ne c1 rfl (show (0 : Int32).toInt = 0 from rfl)
    refine And.intro (fun c39 => ?_) (fun c39 => ?_)
    · have d40 : (x_60).toInt = 0 := i_eq c39 rfl (show (0 : Int32).toInt = 0 from rfl)
      refine z_nn_of (s_1547_40 J.1) ?_
      refine And.intro (by exact vp_of (L := 2) (s_l51 J.1) (by omega) (by omega)) ?_
      refine z_nn_of (s_1539_40 J.1) ?_
      refine And.intro (by exact vp_of (L := 2) (s_l43 J.1) (by omega) (by omega)) ?_
      refine And.intro (fun c41 => ?_) (fun c41 => ?_)
      · have b42 := a_51 J (p1 : Int32).toNatClampNeg
        have b43 := a_43 J (p1 : Int32).toNatClampNeg
        have d44 : ((z_ai M (n + 51) (p1 : Int32).toNatClampNeg)).toInt < ((z_ai M (n + 43) (p1 : Int32).toNatClampNeg)).toInt := i_lt c41 rfl rfl
        refine And.intro (fun c45 => ?_) (fun c45 => ?_)
        · refine And.intro (fun c46 => ?_) (fun c46 => ?_)
          · have d47 : (p2).toInt = 2 := i_eq c46 rfl (show (2 : Int32).toInt = 2 from rfl)
            refine z_nn_of (s_1547_40 J.1) ?_
            refine And.intro (by exact vp_of (L := 2) (s_l51 J.1) (by omega) (by omega)) ?_
            refine z_nn_of (s_1540_40 J.1) ?_
            refine And.intro (by exact vp_of (L := 2) (s_l44 J.1) (by omega) (by omega)) ?_
            refine And.intro (fun c48 => ?_) (fun c48 => ?_)
            · have b49 := a_51 J (p1 : Int32).toNatClampNeg
              have d50 : ((z_ai M (n + 51) (p1 : Int32).toNatClampNeg)).toInt < ((z_ai M (n + 44) (p1 : Int32).toNatClampNeg)).toInt := i_lt c48 rfl rfl
              refine z_nn_of (s_1603_40 J.1) ?_
              refine And.intro (by exact vp_of (L := 400) (s_l81 J.1) (by omega) (by omega)) ?_
              intro M_33w14 e_M_33w14
              have J_M_33w14 := w_sai J e_M_33w14 (by decide +kernel)
              exact t_X12_puts_111 J_M_33w14 (by omega) (by omega) h0 (by subst_vars; first | omega | (simp only [rf_na (show (51 : Nat) ≠ 81 by decide)]; omega)) (fun M1 p0 J1 => k M1 (p0.trans (by subst_vars; rfl)) J1)
            · have b51 := a_51 J (p1 : Int32).toNatClampNeg
              have d52 : ¬ ((z_ai M (n + 51) (p1 : Int32).toNatClampNeg)).toInt < ((z_ai M (n + 44) (p1 : Int32).toNatClampNeg)).toInt := i_nlt c48 rfl rfl
              refine z_nn_of (s_1603_40 J.1) ?_
              refine And.intro (by exact vp_of (L := 400) (s_l81 J.1) (by omega) (by omega)) ?_
              intro M_33w15 e_M_33w15
              have J_M_33w15 := w_sai J e_M_33w15 (by decide +kernel)
              exact t_X12_puts_111 J_M_33w15 (by omega) (by omega) h0 (by subst_vars; first | omega | (simp only [rf_na (show (51 : Nat) ≠ 81 by decide)]; omega)) (fun M1 p0 J1 => k M1 (p0.trans (by subst_vars; rfl)) J1)
          · have d53 : ¬ (p2).toInt = 2 := i_ne c46 rfl (show (2 : Int32).toInt = 2 from rfl)
            exact t_X12_puts_111 J (by omega) (by omega) h0 (by subst_vars; first | omega | (simp only [rf_na (show (51 : Nat) ≠ 81 by decide)]; omega)) (fun M1 p0 J1 => k M1 (p0.trans (by subst_vars; rfl)) J1)
        · exact absurd rfl c45
      · have b54 := a_51 J (p1 : Int32).toNatClampNeg
        have b55 := a_43 J (p1 : Int32).toNatClampNeg
        have d56 : ¬ ((z_ai M (n + 51) (p1 : Int32).toNatClampNeg)).toInt < ((z_ai M (n + 43) (p1 : Int32).toNatClampNeg)).toInt := i_nlt c41 rfl rfl
        refine And.intro (fun c57 => ?_) (fun c57 => ?_)
        · exact absurd c57 (by decide)
        · refine And.intro (fun c58 => ?_) (fun c58 => ?_)
          · have d59 : (p2).toInt = 2 := i_eq c58 rfl (show (2 : Int32).toInt = 2 from rfl)
            refine z_nn_of (s_1599_40 J.1) ?_
            refine And.intro (by exact vp_of (L := 400) (s_l77 J.1) (by omega) (by omega)) ?_
            intro M_48w17 e_M_48w17
            have J_M_48w17 := w_sai J e_M_48w17 (by decide +kernel)
            exact k _ (by subst_vars; rfl) (rf_w J_M_48w17 (by omega) (by omega) (by omega) (by omega))
          · have d60 : ¬ (p2).toInt = 2 := i_ne c58 rfl (show (2 : Int32).toInt = 2 from rfl)
            exact k _ (by subst_vars; rfl) (rf_w J (by omega) (by omega) (by omega) (by omega))
    · have d61 : ¬ (x_60).toInt = 0 := i_ne c39 rfl (show (0 : Int32).toInt = 0 from rfl)
      refine And.intro (fun c62 => ?_) (fun c62 => ?_)
      · exact absurd c62 (by decide)
      · refine And.intro (fun c63 => ?_) (fun c63 => ?_)
        · have d64 : (p2).toInt = 2 := i_eq c63 rfl (show (2 : Int32).toInt = 2 from rfl)
          refine z_nn_of (s_1599_40 J.1) ?_
          refine And.intro (by exact vp_of (L := 400) (s_l77 J.1) (by omega) (by omega)) ?_
          intro M_48w19 e_M_48w19
          have J_M_48w19 := w_sai J e_M_48w19 (by decide +kernel)
          exact k _ (by subst_vars; rfl) (rf_w J_M_48w19 (by omega) (by omega) (by omega) (by omega))
        · have d65 : ¬ (p2).toInt = 2 := i_ne c63 rfl (show (2 : Int32).toInt = 2 from rfl)
          exact k _ (by subst_vars; rfl) (rf_w J (by omega) (by omega) (by omega) (by omega))
theorem t_X12_saysHello {n t s q z : Nat} {M0 : z_Mem} {M : z_Mem} {Post : z_Mem → Prop} (J : rf_J n (t + 1) (s + 1) (q + 1) z M0 M) (k : ∀ M1, rf_J n t s q z M0 M1 → Post M1) : P_X12_saysHello (n + 40) M Post := by
  have T0 : (0 : Int32).toInt = 0 := rfl; have T1 : (1 : Int32).toInt = 1 := rfl; have T2 : (2 : Int32).toInt = 2 := rfl; have T10 : (10 : Int32).toInt = 10 := rfl
  intro M_2 e_M_2
  have J_M_2 := w_1580 J e_M_2 rfl
  refine z_nn_of (s_1629_40 J_M_2.1) ?_
  refine And.intro (by exact vp_of (L := 6) (s_l106 J_M_2.1) (by rw [(show (3 : Int32).toInt = 3 from rfl)]; omega) (by rw [(show (3 : Int32).toInt = 3 from rfl)]; omega)) ?_
  refine And.intro (by exact vp_of (L := 6) (s_l106 J_M_2.1) (by rw [(show (3 : Int32).toInt = 3 from rfl)]; omega) (by rw [(show (3 : Int32).toInt = 3 from rfl)]; omega)) ?_
  intro M_7 e_M_7
  have J_M_7 := w_sai J_M_2 e_M_7 (by decide +kernel)
  refine And.intro (fun c1 => ?_) (fun c1 => ?_)
  · have b2 := f_1579 J_M_7
    have d3 : ((z_fi M_7 1579 (n + 40))).toInt = 0 := i_eq c1 rfl (show (0 : Int32).toInt = 0 from rfl)
    refine t_X12_puts J_M_7 (by rw [(show (0 : Int32).toInt = 0 from rfl)]; omega) (by have b4 := f_1578 J_M_7; rw [(show (((2 * ((z_fi M_7 1578 (n + 40)) + 1)) + 0) : Int32).toInt = ((2 * (((z_fi M_7 1578 (n + 40))).toInt + 1)) + 0) from i_addE (show ((2 * ((z_fi M_7 1578 (n + 40)) + 1)) : Int32).toInt = (2 * (((z_fi M_7 1578 (n + 40))).toInt + 1)) from i_mulE (show (2 : Int32).toInt = 2 from rfl) (show (((z_fi M_7 1578 (n + 40)) + 1) : Int32).toInt = (((z_fi M_7 1578 (n + 40))).toInt + 1) from i_addE rfl (show (1 : Int32).toInt = 1 from rfl) (by omega) (by omega)) (by omega) (by omega)) (show (0 : Int32).toInt = 0 from rfl) (by omega) (by omega))]; omega) (fun _ => by have b := f_1578 J_M_7; rw [i_addE (i_mulE (show (2 : Int32).toInt = 2 from rfl) (i_addE (x := z_fi M_7 1578 (n + 40)) rfl (show (1 : Int32).toInt = 1 from rfl) (by omega) (by omega)) (by omega) (by omega)) (show (0 : Int32).toInt = 0 from rfl) (by omega) (by omega)]; omega) (fun M_11 p0_M_11 J_M_11 => ?_)
    exact k _ (rf_w J_M_11 (by omega) (by omega) (by omega) (by omega))
  · have b5 := f_1579 J_M_7
    have d6 : ¬ ((z_fi M_7 1579 (n + 40))).toInt = 0 := i_ne c1 rfl (show (0 : Int32).toInt = 0 from rfl)
    refine t_X12_puts J_M_7 (by rw [(show (0 : Int32).toInt = 0 from rfl)]; omega) (by have b7 := f_1578 J_M_7; rw [(show (((2 * ((z_fi M_7 1578 (n + 40)) + 1)) + 1) : Int32).toInt = ((2 * (((z_fi M_7 1578 (n + 40))).toInt + 1)) + 1) from i_addE (show ((2 * ((z_fi M_7 1578 (n + 40)) + 1)) : Int32).toInt = (2 * (((z_fi M_7 1578 (n + 40))).toInt + 1)) from i_mulE (show (2 : Int32).toInt = 2 from rfl) (show (((z_fi M_7 1578 (n + 40)) + 1) : Int32).toInt = (((z_fi M_7 1578 (n + 40))).toInt + 1) from i_addE rfl (show (1 : Int32).toInt = 1 from rfl) (by omega) (by omega)) (by omega) (by omega)) (show (1 : Int32).toInt = 1 from rfl) (by omega) (by omega))]; omega) (fun _ => by have b := f_1578 J_M_7; rw [i_addE (i_mulE (show (2 : Int32).toInt = 2 from rfl) (i_addE (x := z_fi M_7 1578 (n + 40)) rfl (show (1 : Int32).toInt = 1 from rfl) (by omega) (by omega)) (by omega) (by omega)) (show (1 : Int32).toInt = 1 from rfl) (by omega) (by omega)]; omega) (fun M_12 p0_M_12 J_M_12 => ?_)
    exact k _ (rf_w J_M_12 (by omega) (by omega) (by omega) (by omega))
theorem t_X12_saysHellot {n t s q z : Nat} {M0 : z_Mem} {M : z_Mem} {Post : z_Mem → Prop} (J : rf_J n t s q z M0 M) (h0 : (z_fi M 1580 (n + 40)).toInt + 10 ≤ (z_fi M 1536 (n + 40)).toInt) (k : ∀ M1, rf_J n t s q z M0 M1 → Post M1) : P_X12_saysHello (n + 40) M Post := by
  have T0 : (0 : Int32).toInt = 0 := rfl; have T1 : (1 : Int32).toInt = 1 := rfl; have T2 : (2 : Int32).toInt = 2 := rfl; have T10 : (10 : Int32).toInt = 10 := rfl
  intro M_2 e_M_2
  have J_M_2 := w_1580t J e_M_2 rfl h0
  refine z_nn_of (s_1629_40 J_M_2.1) ?_
  refine And.intro (by exact vp_of (L := 6) (s_l106 J_M_2.1) (by rw [(show (3 : Int32).toInt = 3 from rfl)]; omega) (by rw [(show (3 : Int32).toInt = 3 from rfl)]; omega)) ?_
  refine And.intro (by exact vp_of (L := 6) (s_l106 J_M_2.1) (by rw [(show (3 : Int32).toInt = 3 from rfl)]; omega) (by rw [(show (3 : Int32).toInt = 3 from rfl)]; omega)) ?_
  intro M_7 e_M_7
  have J_M_7 := w_sai J_M_2 e_M_7 (by decide +kernel)
  refine And.intro (fun c1 => ?_) (fun c1 => ?_)
  · have b2 := f_1579 J_M_7
    have d3 : ((z_fi M_7 1579 (n + 40))).toInt = 0 := i_eq c1 rfl (show (0 : Int32).toInt = 0 from rfl)
    refine t_X12_puts J_M_7 (by rw [(show (0 : Int32).toInt = 0 from rfl)]; omega) (by have b4 := f_1578 J_M_7; rw [(show (((2 * ((z_fi M_7 1578 (n + 40)) + 1)) + 0) : Int32).toInt = ((2 * (((z_fi M_7 1578 (n + 40))).toInt + 1)) + 0) from i_addE (show ((2 * ((z_fi M_7 1578 (n + 40)) + 1)) : Int32).toInt = (2 * (((z_fi M_7 1578 (n + 40))).toInt + 1)) from i_mulE (show (2 : Int32).toInt = 2 from rfl) (show (((z_fi M_7 1578 (n + 40)) + 1) : Int32).toInt = (((z_fi M_7 1578 (n + 40))).toInt + 1) from i_addE rfl (show (1 : Int32).toInt = 1 from rfl) (by omega) (by omega)) (by omega) (by omega)) (show (0 : Int32).toInt = 0 from rfl) (by omega) (by omega))]; omega) (fun _ => by have b := f_1578 J_M_7; rw [i_addE (i_mulE (show (2 : Int32).toInt = 2 from rfl) (i_addE (x := z_fi M_7 1578 (n + 40)) rfl (show (1 : Int32).toInt = 1 from rfl) (by omega) (by omega)) (by omega) (by omega)) (show (0 : Int32).toInt = 0 from rfl) (by omega) (by omega)]; omega) (fun M_11 p0_M_11 J_M_11 => ?_)
    exact k _ (rf_w J_M_11 (by omega) (by omega) (by omega) (by omega))
  · have b5 := f_1579 J_M_7
    have d6 : ¬ ((z_fi M_7 1579 (n + 40))).toInt = 0 := i_ne c1 rfl (show (0 : Int32).toInt = 0 from rfl)
    refine t_X12_puts J_M_7 (by rw [(show (0 : Int32).toInt = 0 from rfl)]; omega) (by have b7 := f_1578 J_M_7; rw [(show (((2 * ((z_fi M_7 1578 (n + 40)) + 1)) + 1) : Int32).toInt = ((2 * (((z_fi M_7 1578 (n + 40))).toInt + 1)) + 1) from i_addE (show ((2 * ((z_fi M_7 1578 (n + 40)) + 1)) : Int32).toInt = (2 * (((z_fi M_7 1578 (n + 40))).toInt + 1)) from i_mulE (show (2 : Int32).toInt = 2 from rfl) (show (((z_fi M_7 1578 (n + 40)) + 1) : Int32).toInt = (((z_fi M_7 1578 (n + 40))).toInt + 1) from i_addE rfl (show (1 : Int32).toInt = 1 from rfl) (by omega) (by omega)) (by omega) (by omega)) (show (1 : Int32).toInt = 1 from rfl) (by omega) (by omega))]; omega) (fun _ => by have b := f_1578 J_M_7; rw [i_addE (i_mulE (show (2 : Int32).toInt = 2 from rfl) (i_addE (x := z_fi M_7 1578 (n + 40)) rfl (show (1 : Int32).toInt = 1 from rfl) (by omega) (by omega)) (by omega) (by omega)) (show (1 : Int32).toInt = 1 from rfl) (by omega) (by omega)]; omega) (fun M_12 p0_M_12 J_M_12 => ?_)
    exact k _ (rf_w J_M_12 (by omega) (by omega) (by omega) (by omega))
theorem t_X12_hearsAccept_21 {n t s q z : Nat} {M0 : z_Mem} {Post : z_Mem → Prop} (k : ∀ M1, rf_J n t s q z M0 M1 → Post M1) : ∀ (m : Nat) (x1 : Int32) (x2 : Int32) (M : z_Mem), (400 - x2.toInt).toNat < m → 0 ≤ x2.toInt → rf_J n t s q z M0 M → P_X12_hearsAccept_21 (n + 40) Post m x1 x2 M := by
  have T0 : (0 : Int32).toInt = 0 := rfl; have T1 : (1 : Int32).toInt = 1 := rfl; have T2 : (2 : Int32).toInt = 2 := rfl; have T10 : (10 : Int32).toInt = 10 := rfl
  intro m
  induction m with
  | zero => intro x1 x2 M h; omega
  | succ m ih =>
    intro x1 x2 M hm f0 J
    refine And.intro (fun c1 => ?_) (fun c1 => ?_)
    · have b2 := f_1606 J
      have d3 : ((z_fi M 1606 (n + 40))).toInt ≤ (x2).toInt := i_le c1 rfl rfl
      exact k _ (rf_w J (by omega) (by omega) (by omega) (by omega))
    · have b4 := f_1606 J
      have d5 : ¬ ((z_fi M 1606 (n + 40))).toInt ≤ (x2).toInt := i_nle c1 rfl rfl
      refine And.intro (fun c6 => ?_) (fun c6 => ?_)
      · have d7 : (x1).toInt = 0 := i_eq c6 rfl (show (0 : Int32).toInt = 0 from rfl)
        refine z_nn_of (s_1602_40 J.1) ?_
        refine And.intro (by exact vp_of (L := 400) (s_l80 J.1) (by omega) (by omega)) ?_
        refine And.intro (fun c8 => ?_) (fun c8 => ?_)
        · have d9 : ((z_ai M (n + 80) (x2 : Int32).toNatClampNeg)).toInt = 0 := i_eq c8 rfl (show (0 : Int32).toInt = 0 from rfl)
          intro x_1w1 e_x_1w1
          have t_x_1w1 : x_1w1.toInt = ((x2).toInt + 1) := by rw [e_x_1w1]; exact (show ((x2 + 1) : Int32).toInt = ((x2).toInt + 1) from i_addE rfl (show (1 : Int32).toInt = 1 from rfl) (by omega) (by omega))
          exact ih _ _ _ (by omega) (by omega) (rf_w J (by omega) (by omega) (by omega) (by omega))
        · have d10 : ¬ ((z_ai M (n + 80) (x2 : Int32).toNatClampNeg)).toInt = 0 := i_ne c8 rfl (show (0 : Int32).toInt = 0 from rfl)
          refine z_nn_of (s_1598_40 J.1) ?_
          refine And.intro (by exact vp_of (L := 400) (s_l76 J.1) (by omega) (by omega)) ?_
          refine And.intro (fun c11 => ?_) (fun c11 => ?_)
          · have d12 : ((z_ai M (n + 76) (x2 : Int32).toNatClampNeg)).toInt = 0 := i_eq c11 rfl (show (0 : Int32).toInt = 0 from rfl)
            refine t_X12_lands J (by omega) (by decide) (fun M_13 J_M_13 => ?_)
            intro x_1w2 e_x_1w2
            have t_x_1w2 : x_1w2.toInt = ((x2).toInt + 1) := by rw [e_x_1w2]; exact (show ((x2 + 1) : Int32).toInt = ((x2).toInt + 1) from i_addE rfl (show (1 : Int32).toInt = 1 from rfl) (by omega) (by omega))
            exact ih _ _ _ (by omega) (by omega) (rf_w J_M_13 (by omega) (by omega) (by omega) (by omega))
          · have d13 : ¬ ((z_ai M (n + 76) (x2 : Int32).toNatClampNeg)).toInt = 0 := i_ne c11 rfl (show (0 : Int32).toInt = 0 from rfl)
            intro x_1w3 e_x_1w3
            have t_x_1w3 : x_1w3.toInt = ((x2).toInt + 1) := by rw [e_x_1w3]; exact (show ((x2 + 1) : Int32).toInt = ((x2).toInt + 1) from i_addE rfl (show (1 : Int32).toInt = 1 from rfl) (by omega) (by omega))
            exact ih _ _ _ (by omega) (by omega) (rf_w J (by omega) (by omega) (by omega) (by omega))
      · have d14 : ¬ (x1).toInt = 0 := i_ne c6 rfl (show (0 : Int32).toInt = 0 from rfl)
        intro x_1w4 e_x_1w4
        have t_x_1w4 : x_1w4.toInt = ((x2).toInt + 1) := by rw [e_x_1w4]; exact (show ((x2 + 1) : Int32).toInt = ((x2).toInt + 1) from i_addE rfl (show (1 : Int32).toInt = 1 from rfl) (by omega) (by omega))
        exact ih _ _ _ (by omega) (by omega) (rf_w J (by omega) (by omega) (by omega) (by omega))
theorem t_X12_hearsAccept {n t s q z : Nat} {M0 : z_Mem} {p1 : Int32} {M : z_Mem} {Post : z_Mem → Prop} (J : rf_J n t s q z M0 M) (k : ∀ M1, rf_J n t s q z M0 M1 → Post M1) : P_X12_hearsAccept (n + 40) p1 M Post := by
  have T0 : (0 : Int32).toInt = 0 := rfl; have T1 : (1 : Int32).toInt = 1 := rfl; have T2 : (2 : Int32).toInt = 2 := rfl; have T10 : (10 : Int32).toInt = 10 := rfl
  intro M_14 e_M_14
  have J_M_14 := w_1577 J e_M_14 (by decide)
  refine t_X12_measures J_M_14 (by rw [(show (0 : Int32).toInt = 0 from rfl)]; omega) (by have b1 := f_1536 J_M_14; have b2 := f_1580 J_M_14; have b3 := rf_hl J_M_14; have g := i_subE (x := z_fi M_14 1536 (n + 40)) (y := z_fi M_14 1580 (n + 40)) rfl rfl (by omega) (by omega); omega) (fun M_17 J_M_17 => ?_)
  exact ⟨_, t_X12_hearsAccept_21 k _ _ _ _ (Nat.lt_succ_self _) (by decide) (rf_w J_M_17 (by omega) (by omega) (by omega) (by omega))⟩
theorem t_X12_arrivesAtClient {n t s q z : Nat} {M0 : z_Mem} {p1 : Int32} {M : z_Mem} {Post : z_Mem → Prop} (J : rf_J n t s q z M0 M) (h_p1 : 0 ≤ p1.toInt ∧ p1.toInt ≤ 3599) (k : ∀ M1, rf_J n t s q z M0 M1 → Post M1) : P_X12_arrivesAtClient (n + 40) p1 M Post := by
  have T0 : (0 : Int32).toInt = 0 := rfl; have T1 : (1 : Int32).toInt = 1 := rfl; have T2 : (2 : Int32).toInt = 2 := rfl; have T10 : (10 : Int32).toInt = 10 := rfl
  refine z_nn_of (s_1555_40 J.1) ?_
  refine And.intro (by exact vp_of (L := 3600) (s_l57 J.1) (by omega) (by omega)) ?_
  intro x_42 e_x_42
  have t_x_42 : x_42.toInt = ((z_ai M (n + 57) (p1 : Int32).toNatClampNeg)).toInt := by rw [e_x_42]
  refine And.intro (fun c1 => ?_) (fun c1 => ?_)
  · have d2 : (x_42).toInt = 5 := i_eq c1 rfl (show (5 : Int32).toInt = 5 from rfl)
    refine And.intro (fun c3 => ?_) (fun c3 => ?_)
    · have d4 : ((z_fi M 1577 (n + 40))).toInt = 1 := i_eq c3 rfl (show (1 : Int32).toInt = 1 from rfl)
      refine And.intro (fun c5 => ?_) (fun c5 => ?_)
      · have b6 := f_1579 J
        have d7 : ((z_fi M 1579 (n + 40))).toInt = 0 := i_eq c5 rfl (show (0 : Int32).toInt = 0 from rfl)
        intro M_48 e_M_48
        have J_M_48 := w_1579 J e_M_48 (by decide) (by decide) (by decide) (by assumption)
        intro M_49 e_M_49
        have J_M_49 := w_1581 J_M_48 e_M_49 (by decide) (by decide)
        refine t_X12_saysHello J_M_49 (fun M_50 J_M_50 => ?_)
        exact k _ (rf_w J_M_50 (by omega) (by omega) (by omega) (by omega))
      · have b8 := f_1579 J
        have d9 : ¬ ((z_fi M 1579 (n + 40))).toInt = 0 := i_ne c5 rfl (show (0 : Int32).toInt = 0 from rfl)
        refine And.intro (fun c10 => ?_) (fun c10 => ?_)
        · have d11 : (x_42).toInt = 6 := i_eq c10 rfl (show (6 : Int32).toInt = 6 from rfl)
          refine And.intro (fun c12 => ?_) (fun c12 => ?_)
          · have d13 : ((z_fi M 1577 (n + 40))).toInt = 1 := i_eq c12 rfl (show (1 : Int32).toInt = 1 from rfl)
            refine z_nn_of (s_1556_40 J.1) ?_
            refine And.intro (by exact vp_of (L := 3600) (s_l58 J.1) (by omega) (by omega)) ?_
            refine And.intro (fun c14 => ?_) (fun c14 => ?_)
            · have b15 := a_58 J (p1 : Int32).toNatClampNeg
              have d16 : ((z_ai M (n + 58) (p1 : Int32).toNatClampNeg)).toInt = 1 := i_eq c14 rfl (show (1 : Int32).toInt = 1 from rfl)
              refine t_X12_hearsAccept J (fun M_38w1 J_M_38w1 => ?_)
              exact k _ (rf_w J_M_38w1 (by omega) (by omega) (by omega) (by omega))
            · have b17 := a_58 J (p1 : Int32).toNatClampNeg
              have d18 : ¬ ((z_ai M (n + 58) (p1 : Int32).toNatClampNeg)).toInt = 1 := i_ne c14 rfl (show (1 : Int32).toInt = 1 from rfl)
              refine t_X12_hearsAccept J (fun M_37w1 J_M_37w1 => ?_)
              exact k _ (rf_w J_M_37w1 (by omega) (by omega) (by omega) (by omega))
          · have d19 : ¬ ((z_fi M 1577 (n + 40))).toInt = 1 := i_ne c12 rfl (show (1 : Int32).toInt = 1 from rfl)
            refine And.intro (fun c20 => ?_) (fun c20 => ?_)
            · have d21 : (x_42).toInt = 7 := i_eq c20 rfl (show (7 : Int32).toInt = 7 from rfl)
              refine And.intro (fun c22 => ?_) (fun c22 => ?_)
              · have d23 : ((z_fi M 1577 (n + 40))).toInt = 2 := i_eq c22 rfl (show (2 : Int32).toInt = 2 from rfl)
                refine z_nn_of (s_1556_40 J.1) ?_
                refine And.intro (by exact vp_of (L := 3600) (s_l58 J.1) (by omega) (by omega)) ?_
                refine t_X12_hearsAck J (by have b24 := a_58 J (p1 : Int32).toNatClampNeg; omega) (fun M_23w2 J_M_23w2 => ?_)
                exact k _ (rf_w J_M_23w2 (by omega) (by omega) (by omega) (by omega))
              · have d25 : ¬ ((z_fi M 1577 (n + 40))).toInt = 2 := i_ne c22 rfl (show (2 : Int32).toInt = 2 from rfl)
                refine And.intro (fun c26 => ?_) (fun c26 => ?_)
                · have d27 : ((z_fi M 1577 (n + 40))).toInt = 3 := i_eq c26 rfl (show (3 : Int32).toInt = 3 from rfl)
                  refine z_nn_of (s_1556_40 J.1) ?_
                  refine And.intro (by exact vp_of (L := 3600) (s_l58 J.1) (by omega) (by omega)) ?_
                  refine t_X12_hearsAck J (by have b28 := a_58 J (p1 : Int32).toNatClampNeg; omega) (fun M_29w2 J_M_29w2 => ?_)
                  exact k _ (rf_w J_M_29w2 (by omega) (by omega) (by omega) (by omega))
                · have d29 : ¬ ((z_fi M 1577 (n + 40))).toInt = 3 := i_ne c26 rfl (show (3 : Int32).toInt = 3 from rfl)
                  refine And.intro (fun c30 => ?_) (fun c30 => ?_)
                  · have d31 : (x_42).toInt = 8 := i_eq c30 rfl (show (8 : Int32).toInt = 8 from rfl)
                    refine And.intro (fun c32 => ?_) (fun c32 => ?_)
                    · have d33 : ((z_fi M 1577 (n + 40))).toInt = 4 := i_eq c32 rfl (show (4 : Int32).toInt = 4 from rfl)
                      refine And.intro (fun c34 => ?_) (fun c34 => ?_)
                      · have d35 : (x_42).toInt = 9 := i_eq c34 rfl (show (9 : Int32).toInt = 9 from rfl)
                        refine And.intro (fun c36 => ?_) (fun c36 => ?_)
                        · have d37 : ((z_fi M 1577 (n + 40))).toInt = 4 := i_eq c36 rfl (show (4 : Int32).toInt = 4 from rfl)
                          exact k _ (rf_w J (by omega) (by omega) (by omega) (by omega))
                        · have d38 : ¬ ((z_fi M 1577 (n + 40))).toInt = 4 := i_ne c36 rfl (show (4 : Int32).toInt = 4 from rfl)
                          intro M_4w4 e_M_4w4
                          have J_M_4w4 := w_1577 J e_M_4w4 (by decide)
                          exact k _ (rf_w J_M_4w4 (by omega) (by omega) (by omega) (by omega))
                      · have d39 : ¬ (x_42).toInt = 9 := i_ne c34 rfl (show (9 : Int32).toInt = 9 from rfl)
                        exact k _ (rf_w J (by omega) (by omega) (by omega) (by omega))
                    · have d40 : ¬ ((z_fi M 1577 (n + 40))).toInt = 4 := i_ne c32 rfl (show (4 : Int32).toInt = 4 from rfl)
                      refine And.intro (fun c41 => ?_) (fun c41 => ?_)
                      · have d42 : ((z_fi M 1577 (n + 40))).toInt = 5 := i_eq c41 rfl (show (5 : Int32).toInt = 5 from rfl)
                        refine And.intro (fun c43 => ?_) (fun c43 => ?_)
                        · have d44 : (x_42).toInt = 9 := i_eq c43 rfl (show (9 : Int32).toInt = 9 from rfl)
                          refine And.intro (fun c45 => ?_) (fun c45 => ?_)
                          · have d46 : ((z_fi M 1577 (n + 40))).toInt = 4 := i_eq c45 rfl (show (4 : Int32).toInt = 4 from rfl)
                            exact k _ (rf_w J (by omega) (by omega) (by omega) (by omega))
                          · have d47 : ¬ ((z_fi M 1577 (n + 40))).toInt = 4 := i_ne c45 rfl (show (4 : Int32).toInt = 4 from rfl)
                            intro M_4w5 e_M_4w5
                            have J_M_4w5 := w_1577 J e_M_4w5 (by decide)
                            exact k _ (rf_w J_M_4w5 (by omega) (by omega) (by omega) (by omega))
                        · have d48 : ¬ (x_42).toInt = 9 := i_ne c43 rfl (show (9 : Int32).toInt = 9 from rfl)
                          exact k _ (rf_w J (by omega) (by omega) (by omega) (by omega))
                      · have d49 : ¬ ((z_fi M 1577 (n + 40))).toInt = 5 := i_ne c41 rfl (show (5 : Int32).toInt = 5 from rfl)
                        refine z_nn_of (s_1557_40 J.1) ?_
                        refine And.intro (by exact vp_of (L := 3600) (s_l59 J.1) (by omega) (by omega)) ?_
                        refine z_nn_of (s_1615_40 J.1) ?_
                        refine And.intro (by have b50 := a_59 J (p1 : Int32).toNatClampNeg; exact vp_of (L := 2) (s_l92 J.1) (by omega) (by omega)) ?_
                        intro M_16w3 e_M_16w3
                        have J_M_16w3 := w_sai J e_M_16w3 (by decide +kernel)
                        exact k _ (rf_w J_M_16w3 (by omega) (by omega) (by omega) (by omega))
                  · have d51 : ¬ (x_42).toInt = 8 := i_ne c30 rfl (show (8 : Int32).toInt = 8 from rfl)
                    refine And.intro (fun c52 => ?_) (fun c52 => ?_)
                    · have d53 : (x_42).toInt = 9 := i_eq c52 rfl (show (9 : Int32).toInt = 9 from rfl)
                      refine And.intro (fun c54 => ?_) (fun c54 => ?_)
                      · have d55 : ((z_fi M 1577 (n + 40))).toInt = 4 := i_eq c54 rfl (show (4 : Int32).toInt = 4 from rfl)
                        exact k _ (rf_w J (by omega) (by omega) (by omega) (by omega))
                      · have d56 : ¬ ((z_fi M 1577 (n + 40))).toInt = 4 := i_ne c54 rfl (show (4 : Int32).toInt = 4 from rfl)
                        intro M_4w6 e_M_4w6
                        have J_M_4w6 := w_1577 J e_M_4w6 (by decide)
                        exact k _ (rf_w J_M_4w6 (by omega) (by omega) (by omega) (by omega))
                    · have d57 : ¬ (x_42).toInt = 9 := i_ne c52 rfl (show (9 : Int32).toInt = 9 from rfl)
                      exact k _ (rf_w J (by omega) (by omega) (by omega) (by omega))
            · have d58 : ¬ (x_42).toInt = 7 := i_ne c20 rfl (show (7 : Int32).toInt = 7 from rfl)
              refine And.intro (fun c59 => ?_) (fun c59 => ?_)
              · have d60 : (x_42).toInt = 8 := i_eq c59 rfl (show (8 : Int32).toInt = 8 from rfl)
                refine And.intro (fun c61 => ?_) (fun c61 => ?_)
                · have d62 : ((z_fi M 1577 (n + 40))).toInt = 4 := i_eq c61 rfl (show (4 : Int32).toInt = 4 from rfl)
                  refine And.intro (fun c63 => ?_) (fun c63 => ?_)
                  · have d64 : (x_42).toInt = 9 := i_eq c63 rfl (show (9 : Int32).toInt = 9 from rfl)
                    refine And.intro (fun c65 => ?_) (fun c65 => ?_)
                    · have d66 : ((z_fi M 1577 (n + 40))).toInt = 4 := i_eq c65 rfl (show (4 : Int32).toInt = 4 from rfl)
                      exact k _ (rf_w J (by omega) (by omega) (by omega) (by omega))
                    · have d67 : ¬ ((z_fi M 1577 (n + 40))).toInt = 4 := i_ne c65 rfl (show (4 : Int32).toInt = 4 from rfl)
                      intro M_4w8 e_M_4w8
                      have J_M_4w8 := w_1577 J e_M_4w8 (by decide)
                      exact k _ (rf_w J_M_4w8 (by omega) (by omega) (by omega) (by omega))
                  · have d68 : ¬ (x_42).toInt = 9 := i_ne c63 rfl (show (9 : Int32).toInt = 9 from rfl)
                    exact k _ (rf_w J (by omega) (by omega) (by omega) (by omega))
                · have d69 : ¬ ((z_fi M 1577 (n + 40))).toInt = 4 := i_ne c61 rfl (show (4 : Int32).toInt = 4 from rfl)
                  refine And.intro (fun c70 => ?_) (fun c70 => ?_)
                  · have d71 : ((z_fi M 1577 (n + 40))).toInt = 5 := i_eq c70 rfl (show (5 : Int32).toInt = 5 from rfl)
                    refine And.intro (fun c72 => ?_) (fun c72 => ?_)
                    · have d73 : (x_42).toInt = 9 := i_eq c72 rfl (show (9 : Int32).toInt = 9 from rfl)
                      refine And.intro (fun c74 => ?_) (fun c74 => ?_)
                      · have d75 : ((z_fi M 1577 (n + 40))).toInt = 4 := i_eq c74 rfl (show (4 : Int32).toInt = 4 from rfl)
                        exact k _ (rf_w J (by omega) (by omega) (by omega) (by omega))
                      · have d76 : ¬ ((z_fi M 1577 (n + 40))).toInt = 4 := i_ne c74 rfl (show (4 : Int32).toInt = 4 from rfl)
                        intro M_4w9 e_M_4w9
                        have J_M_4w9 := w_1577 J e_M_4w9 (by decide)
                        exact k _ (rf_w J_M_4w9 (by omega) (by omega) (by omega) (by omega))
                    · have d77 : ¬ (x_42).toInt = 9 := i_ne c72 rfl (show (9 : Int32).toInt = 9 from rfl)
                      exact k _ (rf_w J (by omega) (by omega) (by omega) (by omega))
                  · have d78 : ¬ ((z_fi M 1577 (n + 40))).toInt = 5 := i_ne c70 rfl (show (5 : Int32).toInt = 5 from rfl)
                    refine z_nn_of (s_1557_40 J.1) ?_
                    refine And.intro (by exact vp_of (L := 3600) (s_l59 J.1) (by omega) (by omega)) ?_
                    refine z_nn_of (s_1615_40 J.1) ?_
                    refine And.intro (by have b79 := a_59 J (p1 : Int32).toNatClampNeg; exact vp_of (L := 2) (s_l92 J.1) (by omega) (by omega)) ?_
                    intro M_16w7 e_M_16w7
                    have J_M_16w7 := w_sai J e_M_16w7 (by decide +kernel)
                    exact k _ (rf_w J_M_16w7 (by omega) (by omega) (by omega) (by omega))
              · have d80 : ¬ (x_42).toInt = 8 := i_ne c59 rfl (show (8 : Int32).toInt = 8 from rfl)
                refine And.intro (fun c81 => ?_) (fun c81 => ?_)
                · have d82 : (x_42).toInt = 9 := i_eq c81 rfl (show (9 : Int32).toInt = 9 from rfl)
                  refine And.intro (fun c83 => ?_) (fun c83 => ?_)
                  · have d84 : ((z_fi M 1577 (n + 40))).toInt = 4 := i_eq c83 rfl (show (4 : Int32).toInt = 4 from rfl)
                    exact k _ (rf_w J (by omega) (by omega) (by omega) (by omega))
                  · have d85 : ¬ ((z_fi M 1577 (n + 40))).toInt = 4 := i_ne c83 rfl (show (4 : Int32).toInt = 4 from rfl)
                    intro M_4w10 e_M_4w10
                    have J_M_4w10 := w_1577 J e_M_4w10 (by decide)
                    exact k _ (rf_w J_M_4w10 (by omega) (by omega) (by omega) (by omega))
                · have d86 : ¬ (x_42).toInt = 9 := i_ne c81 rfl (show (9 : Int32).toInt = 9 from rfl)
                  exact k _ (rf_w J (by omega) (by omega) (by omega) (by omega))
        · have d87 : ¬ (x_42).toInt = 6 := i_ne c10 rfl (show (6 : Int32).toInt = 6 from rfl)
          refine And.intro (fun c88 => ?_) (fun c88 => ?_)
          · have d89 : (x_42).toInt = 7 := i_eq c88 rfl (show (7 : Int32).toInt = 7 from rfl)
            refine And.intro (fun c90 => ?_) (fun c90 => ?_)
            · have d91 : ((z_fi M 1577 (n + 40))).toInt = 2 := i_eq c90 rfl (show (2 : Int32).toInt = 2 from rfl)
              refine z_nn_of (s_1556_40 J.1) ?_
              refine And.intro (by exact vp_of (L := 3600) (s_l58 J.1) (by omega) (by omega)) ?_
              refine t_X12_hearsAck J (by have b92 := a_58 J (p1 : Int32).toNatClampNeg; omega) (fun M_23w11 J_M_23w11 => ?_)
              exact k _ (rf_w J_M_23w11 (by omega) (by omega) (by omega) (by omega))
            · have d93 : ¬ ((z_fi M 1577 (n + 40))).toInt = 2 := i_ne c90 rfl (show (2 : Int32).toInt = 2 from rfl)
              refine And.intro (fun c94 => ?_) (fun c94 => ?_)
              · have d95 : ((z_fi M 1577 (n + 40))).toInt = 3 := i_eq c94 rfl (show (3 : Int32).toInt = 3 from rfl)
                refine z_nn_of (s_1556_40 J.1) ?_
                refine And.intro (by exact vp_of (L := 3600) (s_l58 J.1) (by omega) (by omega)) ?_
                refine t_X12_hearsAck J (by have b96 := a_58 J (p1 : Int32).toNatClampNeg; omega) (fun M_29w11 J_M_29w11 => ?_)
                exact k _ (rf_w J_M_29w11 (by omega) (by omega) (by omega) (by omega))
              · have d97 : ¬ ((z_fi M 1577 (n + 40))).toInt = 3 := i_ne c94 rfl (show (3 : Int32).toInt = 3 from rfl)
                refine And.intro (fun c98 => ?_) (fun c98 => ?_)
                · have d99 : (x_42).toInt = 8 := i_eq c98 rfl (show (8 : Int32).toInt = 8 from rfl)
                  refine And.intro (fun c100 => ?_) (fun c100 => ?_)
                  · have d101 : ((z_fi M 1577 (n + 40))).toInt = 4 := i_eq c100 rfl (show (4 : Int32).toInt = 4 from rfl)
                    refine And.intro (fun c102 => ?_) (fun c102 => ?_)
                    · have d103 : (x_42).toInt = 9 := i_eq c102 rfl (show (9 : Int32).toInt = 9 from rfl)
                      refine And.intro (fun c104 => ?_) (fun c104 => ?_)
                      · have d105 : ((z_fi M 1577 (n + 40))).toInt = 4 := i_eq c104 rfl (show (4 : Int32).toInt = 4 from rfl)
                        exact k _ (rf_w J (by omega) (by omega) (by omega) (by omega))
                      · have d106 : ¬ ((z_fi M 1577 (n + 40))).toInt = 4 := i_ne c104 rfl (show (4 : Int32).toInt = 4 from rfl)
                        intro M_4w13 e_M_4w13
                        have J_M_4w13 := w_1577 J e_M_4w13 (by decide)
                        exact k _ (rf_w J_M_4w13 (by omega) (by omega) (by omega) (by omega))
                    · have d107 : ¬ (x_42).toInt = 9 := i_ne c102 rfl (show (9 : Int32).toInt = 9 from rfl)
                      exact k _ (rf_w J (by omega) (by omega) (by omega) (by omega))
                  · have d108 : ¬ ((z_fi M 1577 (n + 40))).toInt = 4 := i_ne c100 rfl (show (4 : Int32).toInt = 4 from rfl)
                    refine And.intro (fun c109 => ?_) (fun c109 => ?_)
                    · have d110 : ((z_fi M 1577 (n + 40))).toInt = 5 := i_eq c109 rfl (show (5 : Int32).toInt = 5 from rfl)
                      refine And.intro (fun c111 => ?_) (fun c111 => ?_)
                      · have d112 : (x_42).toInt = 9 := i_eq c111 rfl (show (9 : Int32).toInt = 9 from rfl)
                        refine And.intro (fun c113 => ?_) (fun c113 => ?_)
                        · have d114 : ((z_fi M 1577 (n + 40))).toInt = 4 := i_eq c113 rfl (show (4 : Int32).toInt = 4 from rfl)
                          exact k _ (rf_w J (by omega) (by omega) (by omega) (by omega))
                        · have d115 : ¬ ((z_fi M 1577 (n + 40))).toInt = 4 := i_ne c113 rfl (show (4 : Int32).toInt = 4 from rfl)
                          intro M_4w14 e_M_4w14
                          have J_M_4w14 := w_1577 J e_M_4w14 (by decide)
                          exact k _ (rf_w J_M_4w14 (by omega) (by omega) (by omega) (by omega))
                      · have d116 : ¬ (x_42).toInt = 9 := i_ne c111 rfl (show (9 : Int32).toInt = 9 from rfl)
                        exact k _ (rf_w J (by omega) (by omega) (by omega) (by omega))
                    · have d117 : ¬ ((z_fi M 1577 (n + 40))).toInt = 5 := i_ne c109 rfl (show (5 : Int32).toInt = 5 from rfl)
                      refine z_nn_of (s_1557_40 J.1) ?_
                      refine And.intro (by exact vp_of (L := 3600) (s_l59 J.1) (by omega) (by omega)) ?_
                      refine z_nn_of (s_1615_40 J.1) ?_
                      refine And.intro (by have b118 := a_59 J (p1 : Int32).toNatClampNeg; exact vp_of (L := 2) (s_l92 J.1) (by omega) (by omega)) ?_
                      intro M_16w12 e_M_16w12
                      have J_M_16w12 := w_sai J e_M_16w12 (by decide +kernel)
                      exact k _ (rf_w J_M_16w12 (by omega) (by omega) (by omega) (by omega))
                · have d119 : ¬ (x_42).toInt = 8 := i_ne c98 rfl (show (8 : Int32).toInt = 8 from rfl)
                  refine And.intro (fun c120 => ?_) (fun c120 => ?_)
                  · have d121 : (x_42).toInt = 9 := i_eq c120 rfl (show (9 : Int32).toInt = 9 from rfl)
                    refine And.intro (fun c122 => ?_) (fun c122 => ?_)
                    · have d123 : ((z_fi M 1577 (n + 40))).toInt = 4 := i_eq c122 rfl (show (4 : Int32).toInt = 4 from rfl)
                      exact k _ (rf_w J (by omega) (by omega) (by omega) (by omega))
                    · have d124 : ¬ ((z_fi M 1577 (n + 40))).toInt = 4 := i_ne c122 rfl (show (4 : Int32).toInt = 4 from rfl)
                      intro M_4w15 e_M_4w15
                      have J_M_4w15 := w_1577 J e_M_4w15 (by decide)
                      exact k _ (rf_w J_M_4w15 (by omega) (by omega) (by omega) (by omega))
                  · have d125 : ¬ (x_42).toInt = 9 := i_ne c120 rfl (show (9 : Int32).toInt = 9 from rfl)
                    exact k _ (rf_w J (by omega) (by omega) (by omega) (by omega))
          · have d126 : ¬ (x_42).toInt = 7 := i_ne c88 rfl (show (7 : Int32).toInt = 7 from rfl)
            refine And.intro (fun c127 => ?_) (fun c127 => ?_)
            · have d128 : (x_42).toInt = 8 := i_eq c127 rfl (show (8 : Int32).toInt = 8 from rfl)
              refine And.intro (fun c129 => ?_) (fun c129 => ?_)
              · have d130 : ((z_fi M 1577 (n + 40))).toInt = 4 := i_eq c129 rfl (show (4 : Int32).toInt = 4 from rfl)
                refine And.intro (fun c131 => ?_) (fun c131 => ?_)
                · have d132 : (x_42).toInt = 9 := i_eq c131 rfl (show (9 : Int32).toInt = 9 from rfl)
                  refine And.intro (fun c133 => ?_) (fun c133 => ?_)
                  · have d134 : ((z_fi M 1577 (n + 40))).toInt = 4 := i_eq c133 rfl (show (4 : Int32).toInt = 4 from rfl)
                    exact k _ (rf_w J (by omega) (by omega) (by omega) (by omega))
                  · have d135 : ¬ ((z_fi M 1577 (n + 40))).toInt = 4 := i_ne c133 rfl (show (4 : Int32).toInt = 4 from rfl)
                    intro M_4w17 e_M_4w17
                    have J_M_4w17 := w_1577 J e_M_4w17 (by decide)
                    exact k _ (rf_w J_M_4w17 (by omega) (by omega) (by omega) (by omega))
                · have d136 : ¬ (x_42).toInt = 9 := i_ne c131 rfl (show (9 : Int32).toInt = 9 from rfl)
                  exact k _ (rf_w J (by omega) (by omega) (by omega) (by omega))
              · have d137 : ¬ ((z_fi M 1577 (n + 40))).toInt = 4 := i_ne c129 rfl (show (4 : Int32).toInt = 4 from rfl)
                refine And.intro (fun c138 => ?_) (fun c138 => ?_)
                · have d139 : ((z_fi M 1577 (n + 40))).toInt = 5 := i_eq c138 rfl (show (5 : Int32).toInt = 5 from rfl)
                  refine And.intro (fun c140 => ?_) (fun c140 => ?_)
                  · have d141 : (x_42).toInt = 9 := i_eq c140 rfl (show (9 : Int32).toInt = 9 from rfl)
                    refine And.intro (fun c142 => ?_) (fun c142 => ?_)
                    · have d143 : ((z_fi M 1577 (n + 40))).toInt = 4 := i_eq c142 rfl (show (4 : Int32).toInt = 4 from rfl)
                      exact k _ (rf_w J (by omega) (by omega) (by omega) (by omega))
                    · have d144 : ¬ ((z_fi M 1577 (n + 40))).toInt = 4 := i_ne c142 rfl (show (4 : Int32).toInt = 4 from rfl)
                      intro M_4w18 e_M_4w18
                      have J_M_4w18 := w_1577 J e_M_4w18 (by decide)
                      exact k _ (rf_w J_M_4w18 (by omega) (by omega) (by omega) (by omega))
                  · have d145 : ¬ (x_42).toInt = 9 := i_ne c140 rfl (show (9 : Int32).toInt = 9 from rfl)
                    exact k _ (rf_w J (by omega) (by omega) (by omega) (by omega))
                · have d146 : ¬ ((z_fi M 1577 (n + 40))).toInt = 5 := i_ne c138 rfl (show (5 : Int32).toInt = 5 from rfl)
                  refine z_nn_of (s_1557_40 J.1) ?_
                  refine And.intro (by exact vp_of (L := 3600) (s_l59 J.1) (by omega) (by omega)) ?_
                  refine z_nn_of (s_1615_40 J.1) ?_
                  refine And.intro (by have b147 := a_59 J (p1 : Int32).toNatClampNeg; exact vp_of (L := 2) (s_l92 J.1) (by omega) (by omega)) ?_
                  intro M_16w16 e_M_16w16
                  have J_M_16w16 := w_sai J e_M_16w16 (by decide +kernel)
                  exact k _ (rf_w J_M_16w16 (by omega) (by omega) (by omega) (by omega))
            · have d148 : ¬ (x_42).toInt = 8 := i_ne c127 rfl (show (8 : Int32).toInt = 8 from rfl)
              refine And.intro (fun c149 => ?_) (fun c149 => ?_)
              · have d150 : (x_42).toInt = 9 := i_eq c149 rfl (show (9 : Int32).toInt = 9 from rfl)
                refine And.intro (fun c151 => ?_) (fun c151 => ?_)
                · have d152 : ((z_fi M 1577 (n + 40))).toInt = 4 := i_eq c151 rfl (show (4 : Int32).toInt = 4 from rfl)
                  exact k _ (rf_w J (by omega) (by omega) (by omega) (by omega))
                · have d153 : ¬ ((z_fi M 1577 (n + 40))).toInt = 4 := i_ne c151 rfl (show (4 : Int32).toInt = 4 from rfl)
                  intro M_4w19 e_M_4w19
                  have J_M_4w19 := w_1577 J e_M_4w19 (by decide)
                  exact k _ (rf_w J_M_4w19 (by omega) (by omega) (by omega) (by omega))
              · have d154 : ¬ (x_42).toInt = 9 := i_ne c149 rfl (show (9 : Int32).toInt = 9 from rfl)
                exact k _ (rf_w J (by omega) (by omega) (by omega) (by omega))
    · have d155 : ¬ ((z_fi M 1577 (n + 40))).toInt = 1 := i_ne c3 rfl (show (1 : Int32).toInt = 1 from rfl)
      refine And.intro (fun c156 => ?_) (fun c156 => ?_)
      · have d157 : (x_42).toInt = 6 := i_eq c156 rfl (show (6 : Int32).toInt = 6 from rfl)
        refine And.intro (fun c158 => ?_) (fun c158 => ?_)
        · have d159 : ((z_fi M 1577 (n + 40))).toInt = 1 := i_eq c158 rfl (show (1 : Int32).toInt = 1 from rfl)
          refine z_nn_of (s_1556_40 J.1) ?_
          refine And.intro (by exact vp_of (L := 3600) (s_l58 J.1) (by omega) (by omega)) ?_
          refine And.intro (fun c160 => ?_) (fun c160 => ?_)
          · have b161 := a_58 J (p1 : Int32).toNatClampNeg
            have d162 : ((z_ai M (n + 58) (p1 : Int32).toNatClampNeg)).toInt = 1 := i_eq c160 rfl (show (1 : Int32).toInt = 1 from rfl)
            refine t_X12_hearsAccept J (fun M_38w20 J_M_38w20 => ?_)
            exact k _ (rf_w J_M_38w20 (by omega) (by omega) (by omega) (by omega))
          · have b163 := a_58 J (p1 : Int32).toNatClampNeg
            have d164 : ¬ ((z_ai M (n + 58) (p1 : Int32).toNatClampNeg)).toInt = 1 := i_ne c160 rfl (show (1 : Int32).toInt = 1 from rfl)
            refine t_X12_hearsAccept J (fun M_37w20 J_M_37w20 => ?_)
            exact k _ (rf_w J_M_37w20 (by omega) (by omega) (by omega) (by omega))
        · have d165 : ¬ ((z_fi M 1577 (n + 40))).toInt = 1 := i_ne c158 rfl (show (1 : Int32).toInt = 1 from rfl)
          refine And.intro (fun c166 => ?_) (fun c166 => ?_)
          · have d167 : (x_42).toInt = 7 := i_eq c166 rfl (show (7 : Int32).toInt = 7 from rfl)
            refine And.intro (fun c168 => ?_) (fun c168 => ?_)
            · have d169 : ((z_fi M 1577 (n + 40))).toInt = 2 := i_eq c168 rfl (show (2 : Int32).toInt = 2 from rfl)
              refine z_nn_of (s_1556_40 J.1) ?_
              refine And.intro (by exact vp_of (L := 3600) (s_l58 J.1) (by omega) (by omega)) ?_
              refine t_X12_hearsAck J (by have b170 := a_58 J (p1 : Int32).toNatClampNeg; omega) (fun M_23w21 J_M_23w21 => ?_)
              exact k _ (rf_w J_M_23w21 (by omega) (by omega) (by omega) (by omega))
            · have d171 : ¬ ((z_fi M 1577 (n + 40))).toInt = 2 := i_ne c168 rfl (show (2 : Int32).toInt = 2 from rfl)
              refine And.intro (fun c172 => ?_) (fun c172 => ?_)
              · have d173 : ((z_fi M 1577 (n + 40))).toInt = 3 := i_eq c172 rfl (show (3 : Int32).toInt = 3 from rfl)
                refine z_nn_of (s_1556_40 J.1) ?_
                refine And.intro (by exact vp_of (L := 3600) (s_l58 J.1) (by omega) (by omega)) ?_
                refine t_X12_hearsAck J (by have b174 := a_58 J (p1 : Int32).toNatClampNeg; omega) (fun M_29w21 J_M_29w21 => ?_)
                exact k _ (rf_w J_M_29w21 (by omega) (by omega) (by omega) (by omega))
              · have d175 : ¬ ((z_fi M 1577 (n + 40))).toInt = 3 := i_ne c172 rfl (show (3 : Int32).toInt = 3 from rfl)
                refine And.intro (fun c176 => ?_) (fun c176 => ?_)
                · have d177 : (x_42).toInt = 8 := i_eq c176 rfl (show (8 : Int32).toInt = 8 from rfl)
                  refine And.intro (fun c178 => ?_) (fun c178 => ?_)
                  · have d179 : ((z_fi M 1577 (n + 40))).toInt = 4 := i_eq c178 rfl (show (4 : Int32).toInt = 4 from rfl)
                    refine And.intro (fun c180 => ?_) (fun c180 => ?_)
                    · have d181 : (x_42).toInt = 9 := i_eq c180 rfl (show (9 : Int32).toInt = 9 from rfl)
                      refine And.intro (fun c182 => ?_) (fun c182 => ?_)
                      · have d183 : ((z_fi M 1577 (n + 40))).toInt = 4 := i_eq c182 rfl (show (4 : Int32).toInt = 4 from rfl)
                        exact k _ (rf_w J (by omega) (by omega) (by omega) (by omega))
                      · have d184 : ¬ ((z_fi M 1577 (n + 40))).toInt = 4 := i_ne c182 rfl (show (4 : Int32).toInt = 4 from rfl)
                        intro M_4w23 e_M_4w23
                        have J_M_4w23 := w_1577 J e_M_4w23 (by decide)
                        exact k _ (rf_w J_M_4w23 (by omega) (by omega) (by omega) (by omega))
                    · have d185 : ¬ (x_42).toInt = 9 := i_ne c180 rfl (show (9 : Int32).toInt = 9 from rfl)
                      exact k _ (rf_w J (by omega) (by omega) (by omega) (by omega))
                  · have d186 : ¬ ((z_fi M 1577 (n + 40))).toInt = 4 := i_ne c178 rfl (show (4 : Int32).toInt = 4 from rfl)
                    refine And.intro (fun c187 => ?_) (fun c187 => ?_)
                    · have d188 : ((z_fi M 1577 (n + 40))).toInt = 5 := i_eq c187 rfl (show (5 : Int32).toInt = 5 from rfl)
                      refine And.intro (fun c189 => ?_) (fun c189 => ?_)
                      · have d190 : (x_42).toInt = 9 := i_eq c189 rfl (show (9 : Int32).toInt = 9 from rfl)
                        refine And.intro (fun c191 => ?_) (fun c191 => ?_)
                        · have d192 : ((z_fi M 1577 (n + 40))).toInt = 4 := i_eq c191 rfl (show (4 : Int32).toInt = 4 from rfl)
                          exact k _ (rf_w J (by omega) (by omega) (by omega) (by omega))
                        · have d193 : ¬ ((z_fi M 1577 (n + 40))).toInt = 4 := i_ne c191 rfl (show (4 : Int32).toInt = 4 from rfl)
                          intro M_4w24 e_M_4w24
                          have J_M_4w24 := w_1577 J e_M_4w24 (by decide)
                          exact k _ (rf_w J_M_4w24 (by omega) (by omega) (by omega) (by omega))
                      · have d194 : ¬ (x_42).toInt = 9 := i_ne c189 rfl (show (9 : Int32).toInt = 9 from rfl)
                        exact k _ (rf_w J (by omega) (by omega) (by omega) (by omega))
                    · have d195 : ¬ ((z_fi M 1577 (n + 40))).toInt = 5 := i_ne c187 rfl (show (5 : Int32).toInt = 5 from rfl)
                      refine z_nn_of (s_1557_40 J.1) ?_
                      refine And.intro (by exact vp_of (L := 3600) (s_l59 J.1) (by omega) (by omega)) ?_
                      refine z_nn_of (s_1615_40 J.1) ?_
                      refine And.intro (by have b196 := a_59 J (p1 : Int32).toNatClampNeg; exact vp_of (L := 2) (s_l92 J.1) (by omega) (by omega)) ?_
                      intro M_16w22 e_M_16w22
                      have J_M_16w22 := w_sai J e_M_16w22 (by decide +kernel)
                      exact k _ (rf_w J_M_16w22 (by omega) (by omega) (by omega) (by omega))
                · have d197 : ¬ (x_42).toInt = 8 := i_ne c176 rfl (show (8 : Int32).toInt = 8 from rfl)
                  refine And.intro (fun c198 => ?_) (fun c198 => ?_)
                  · have d199 : (x_42).toInt = 9 := i_eq c198 rfl (show (9 : Int32).toInt = 9 from rfl)
                    refine And.intro (fun c200 => ?_) (fun c200 => ?_)
                    · have d201 : ((z_fi M 1577 (n + 40))).toInt = 4 := i_eq c200 rfl (show (4 : Int32).toInt = 4 from rfl)
                      exact k _ (rf_w J (by omega) (by omega) (by omega) (by omega))
                    · have d202 : ¬ ((z_fi M 1577 (n + 40))).toInt = 4 := i_ne c200 rfl (show (4 : Int32).toInt = 4 from rfl)
                      intro M_4w25 e_M_4w25
                      have J_M_4w25 := w_1577 J e_M_4w25 (by decide)
                      exact k _ (rf_w J_M_4w25 (by omega) (by omega) (by omega) (by omega))
                  · have d203 : ¬ (x_42).toInt = 9 := i_ne c198 rfl (show (9 : Int32).toInt = 9 from rfl)
                    exact k _ (rf_w J (by omega) (by omega) (by omega) (by omega))
          · have d204 : ¬ (x_42).toInt = 7 := i_ne c166 rfl (show (7 : Int32).toInt = 7 from rfl)
            refine And.intro (fun c205 => ?_) (fun c205 => ?_)
            · have d206 : (x_42).toInt = 8 := i_eq c205 rfl (show (8 : Int32).toInt = 8 from rfl)
              refine And.intro (fun c207 => ?_) (fun c207 => ?_)
              · have d208 : ((z_fi M 1577 (n + 40))).toInt = 4 := i_eq c207 rfl (show (4 : Int32).toInt = 4 from rfl)
                refine And.intro (fun c209 => ?_) (fun c209 => ?_)
                · have d210 : (x_42).toInt = 9 := i_eq c209 rfl (show (9 : Int32).toInt = 9 from rfl)
                  refine And.intro (fun c211 => ?_) (fun c211 => ?_)
                  · have d212 : ((z_fi M 1577 (n + 40))).toInt = 4 := i_eq c211 rfl (show (4 : Int32).toInt = 4 from rfl)
                    exact k _ (rf_w J (by omega) (by omega) (by omega) (by omega))
                  · have d213 : ¬ ((z_fi M 1577 (n + 40))).toInt = 4 := i_ne c211 rfl (show (4 : Int32).toInt = 4 from rfl)
                    intro M_4w27 e_M_4w27
                    have J_M_4w27 := w_1577 J e_M_4w27 (by decide)
                    exact k _ (rf_w J_M_4w27 (by omega) (by omega) (by omega) (by omega))
                · have d214 : ¬ (x_42).toInt = 9 := i_ne c209 rfl (show (9 : Int32).toInt = 9 from rfl)
                  exact k _ (rf_w J (by omega) (by omega) (by omega) (by omega))
              · have d215 : ¬ ((z_fi M 1577 (n + 40))).toInt = 4 := i_ne c207 rfl (show (4 : Int32).toInt = 4 from rfl)
                refine And.intro (fun c216 => ?_) (fun c216 => ?_)
                · have d217 : ((z_fi M 1577 (n + 40))).toInt = 5 := i_eq c216 rfl (show (5 : Int32).toInt = 5 from rfl)
                  refine And.intro (fun c218 => ?_) (fun c218 => ?_)
                  · have d219 : (x_42).toInt = 9 := i_eq c218 rfl (show (9 : Int32).toInt = 9 from rfl)
                    refine And.intro (fun c220 => ?_) (fun c220 => ?_)
                    · have d221 : ((z_fi M 1577 (n + 40))).toInt = 4 := i_eq c220 rfl (show (4 : Int32).toInt = 4 from rfl)
                      exact k _ (rf_w J (by omega) (by omega) (by omega) (by omega))
                    · have d222 : ¬ ((z_fi M 1577 (n + 40))).toInt = 4 := i_ne c220 rfl (show (4 : Int32).toInt = 4 from rfl)
                      intro M_4w28 e_M_4w28
                      have J_M_4w28 := w_1577 J e_M_4w28 (by decide)
                      exact k _ (rf_w J_M_4w28 (by omega) (by omega) (by omega) (by omega))
                  · have d223 : ¬ (x_42).toInt = 9 := i_ne c218 rfl (show (9 : Int32).toInt = 9 from rfl)
                    exact k _ (rf_w J (by omega) (by omega) (by omega) (by omega))
                · have d224 : ¬ ((z_fi M 1577 (n + 40))).toInt = 5 := i_ne c216 rfl (show (5 : Int32).toInt = 5 from rfl)
                  refine z_nn_of (s_1557_40 J.1) ?_
                  refine And.intro (by exact vp_of (L := 3600) (s_l59 J.1) (by omega) (by omega)) ?_
                  refine z_nn_of (s_1615_40 J.1) ?_
                  refine And.intro (by have b225 := a_59 J (p1 : Int32).toNatClampNeg; exact vp_of (L := 2) (s_l92 J.1) (by omega) (by omega)) ?_
                  intro M_16w26 e_M_16w26
                  have J_M_16w26 := w_sai J e_M_16w26 (by decide +kernel)
                  exact k _ (rf_w J_M_16w26 (by omega) (by omega) (by omega) (by omega))
            · have d226 : ¬ (x_42).toInt = 8 := i_ne c205 rfl (show (8 : Int32).toInt = 8 from rfl)
              refine And.intro (fun c227 => ?_) (fun c227 => ?_)
              · have d228 : (x_42).toInt = 9 := i_eq c227 rfl (show (9 : Int32).toInt = 9 from rfl)
                refine And.intro (fun c229 => ?_) (fun c229 => ?_)
                · have d230 : ((z_fi M 1577 (n + 40))).toInt = 4 := i_eq c229 rfl (show (4 : Int32).toInt = 4 from rfl)
                  exact k _ (rf_w J (by omega) (by omega) (by omega) (by omega))
                · have d231 : ¬ ((z_fi M 1577 (n + 40))).toInt = 4 := i_ne c229 rfl (show (4 : Int32).toInt = 4 from rfl)
                  intro M_4w29 e_M_4w29
                  have J_M_4w29 := w_1577 J e_M_4w29 (by decide)
                  exact k _ (rf_w J_M_4w29 (by omega) (by omega) (by omega) (by omega))
              · have d232 : ¬ (x_42).toInt = 9 := i_ne c227 rfl (show (9 : Int32).toInt = 9 from rfl)
                exact k _ (rf_w J (by omega) (by omega) (by omega) (by omega))
      · have d233 : ¬ (x_42).toInt = 6 := i_ne c156 rfl (show (6 : Int32).toInt = 6 from rfl)
        refine And.intro (fun c234 => ?_) (fun c234 => ?_)
        · have d235 : (x_42).toInt = 7 := i_eq c234 rfl (show (7 : Int32).toInt = 7 from rfl)
          refine And.intro (fun c236 => ?_) (fun c236 => ?_)
          · have d237 : ((z_fi M 1577 (n + 40))).toInt = 2 := i_eq c236 rfl (show (2 : Int32).toInt = 2 from rfl)
            refine z_nn_of (s_1556_40 J.1) ?_
            refine And.intro (by exact vp_of (L := 3600) (s_l58 J.1) (by omega) (by omega)) ?_
            refine t_X12_hearsAck J (by have b238 := a_58 J (p1 : Int32).toNatClampNeg; omega) (fun M_23w30 J_M_23w30 => ?_)
            exact k _ (rf_w J_M_23w30 (by omega) (by omega) (by omega) (by omega))
          · have d239 : ¬ ((z_fi M 1577 (n + 40))).toInt = 2 := i_ne c236 rfl (show (2 : Int32).toInt = 2 from rfl)
            refine And.intro (fun c240 => ?_) (fun c240 => ?_)
            · have d241 : ((z_fi M 1577 (n + 40))).toInt = 3 := i_eq c240 rfl (show (3 : Int32).toInt = 3 from rfl)
              refine z_nn_of (s_1556_40 J.1) ?_
              refine And.intro (by exact vp_of (L := 3600) (s_l58 J.1) (by omega) (by omega)) ?_
              refine t_X12_hearsAck J (by have b242 := a_58 J (p1 : Int32).toNatClampNeg; omega) (fun M_29w30 J_M_29w30 => ?_)
              exact k _ (rf_w J_M_29w30 (by omega) (by omega) (by omega) (by omega))
            · have d243 : ¬ ((z_fi M 1577 (n + 40))).toInt = 3 := i_ne c240 rfl (show (3 : Int32).toInt = 3 from rfl)
              refine And.intro (fun c244 => ?_) (fun c244 => ?_)
              · have d245 : (x_42).toInt = 8 := i_eq c244 rfl (show (8 : Int32).toInt = 8 from rfl)
                refine And.intro (fun c246 => ?_) (fun c246 => ?_)
                · have d247 : ((z_fi M 1577 (n + 40))).toInt = 4 := i_eq c246 rfl (show (4 : Int32).toInt = 4 from rfl)
                  refine And.intro (fun c248 => ?_) (fun c248 => ?_)
                  · have d249 : (x_42).toInt = 9 := i_eq c248 rfl (show (9 : Int32).toInt = 9 from rfl)
                    refine And.intro (fun c250 => ?_) (fun c250 => ?_)
                    · have d251 : ((z_fi M 1577 (n + 40))).toInt = 4 := i_eq c250 rfl (show (4 : Int32).toInt = 4 from rfl)
                      exact k _ (rf_w J (by omega) (by omega) (by omega) (by omega))
                    · have d252 : ¬ ((z_fi M 1577 (n + 40))).toInt = 4 := i_ne c250 rfl (show (4 : Int32).toInt = 4 from rfl)
                      intro M_4w32 e_M_4w32
                      have J_M_4w32 := w_1577 J e_M_4w32 (by decide)
                      exact k _ (rf_w J_M_4w32 (by omega) (by omega) (by omega) (by omega))
                  · have d253 : ¬ (x_42).toInt = 9 := i_ne c248 rfl (show (9 : Int32).toInt = 9 from rfl)
                    exact k _ (rf_w J (by omega) (by omega) (by omega) (by omega))
                · have d254 : ¬ ((z_fi M 1577 (n + 40))).toInt = 4 := i_ne c246 rfl (show (4 : Int32).toInt = 4 from rfl)
                  refine And.intro (fun c255 => ?_) (fun c255 => ?_)
                  · have d256 : ((z_fi M 1577 (n + 40))).toInt = 5 := i_eq c255 rfl (show (5 : Int32).toInt = 5 from rfl)
                    refine And.intro (fun c257 => ?_) (fun c257 => ?_)
                    · have d258 : (x_42).toInt = 9 := i_eq c257 rfl (show (9 : Int32).toInt = 9 from rfl)
                      refine And.intro (fun c259 => ?_) (fun c259 => ?_)
                      · have d260 : ((z_fi M 1577 (n + 40))).toInt = 4 := i_eq c259 rfl (show (4 : Int32).toInt = 4 from rfl)
                        exact k _ (rf_w J (by omega) (by omega) (by omega) (by omega))
                      · have d261 : ¬ ((z_fi M 1577 (n + 40))).toInt = 4 := i_ne c259 rfl (show (4 : Int32).toInt = 4 from rfl)
                        intro M_4w33 e_M_4w33
                        have J_M_4w33 := w_1577 J e_M_4w33 (by decide)
                        exact k _ (rf_w J_M_4w33 (by omega) (by omega) (by omega) (by omega))
                    · have d262 : ¬ (x_42).toInt = 9 := i_ne c257 rfl (show (9 : Int32).toInt = 9 from rfl)
                      exact k _ (rf_w J (by omega) (by omega) (by omega) (by omega))
                  · have d263 : ¬ ((z_fi M 1577 (n + 40))).toInt = 5 := i_ne c255 rfl (show (5 : Int32).toInt = 5 from rfl)
                    refine z_nn_of (s_1557_40 J.1) ?_
                    refine And.intro (by exact vp_of (L := 3600) (s_l59 J.1) (by omega) (by omega)) ?_
                    refine z_nn_of (s_1615_40 J.1) ?_
                    refine And.intro (by have b264 := a_59 J (p1 : Int32).toNatClampNeg; exact vp_of (L := 2) (s_l92 J.1) (by omega) (by omega)) ?_
                    intro M_16w31 e_M_16w31
                    have J_M_16w31 := w_sai J e_M_16w31 (by decide +kernel)
                    exact k _ (rf_w J_M_16w31 (by omega) (by omega) (by omega) (by omega))
              · have d265 : ¬ (x_42).toInt = 8 := i_ne c244 rfl (show (8 : Int32).toInt = 8 from rfl)
                refine And.intro (fun c266 => ?_) (fun c266 => ?_)
                · have d267 : (x_42).toInt = 9 := i_eq c266 rfl (show (9 : Int32).toInt = 9 from rfl)
                  refine And.intro (fun c268 => ?_) (fun c268 => ?_)
                  · have d269 : ((z_fi M 1577 (n + 40))).toInt = 4 := i_eq c268 rfl (show (4 : Int32).toInt = 4 from rfl)
                    exact k _ (rf_w J (by omega) (by omega) (by omega) (by omega))
                  · have d270 : ¬ ((z_fi M 1577 (n + 40))).toInt = 4 := i_ne c268 rfl (show (4 : Int32).toInt = 4 from rfl)
                    intro M_4w34 e_M_4w34
                    have J_M_4w34 := w_1577 J e_M_4w34 (by decide)
                    exact k _ (rf_w J_M_4w34 (by omega) (by omega) (by omega) (by omega))
                · have d271 : ¬ (x_42).toInt = 9 := i_ne c266 rfl (show (9 : Int32).toInt = 9 from rfl)
                  exact k _ (rf_w J (by omega) (by omega) (by omega) (by omega))
        · have d272 : ¬ (x_42).toInt = 7 := i_ne c234 rfl (show (7 : Int32).toInt = 7 from rfl)
          refine And.intro (fun c273 => ?_) (fun c273 => ?_)
          · have d274 : (x_42).toInt = 8 := i_eq c273 rfl (show (8 : Int32).toInt = 8 from rfl)
            refine And.intro (fun c275 => ?_) (fun c275 => ?_)
            · have d276 : ((z_fi M 1577 (n + 40))).toInt = 4 := i_eq c275 rfl (show (4 : Int32).toInt = 4 from rfl)
              refine And.intro (fun c277 => ?_) (fun c277 => ?_)
              · have d278 : (x_42).toInt = 9 := i_eq c277 rfl (show (9 : Int32).toInt = 9 from rfl)
                refine And.intro (fun c279 => ?_) (fun c279 => ?_)
                · have d280 : ((z_fi M 1577 (n + 40))).toInt = 4 := i_eq c279 rfl (show (4 : Int32).toInt = 4 from rfl)
                  exact k _ (rf_w J (by omega) (by omega) (by omega) (by omega))
                · have d281 : ¬ ((z_fi M 1577 (n + 40))).toInt = 4 := i_ne c279 rfl (show (4 : Int32).toInt = 4 from rfl)
                  intro M_4w36 e_M_4w36
                  have J_M_4w36 := w_1577 J e_M_4w36 (by decide)
                  exact k _ (rf_w J_M_4w36 (by omega) (by omega) (by omega) (by omega))
              · have d282 : ¬ (x_42).toInt = 9 := i_ne c277 rfl (show (9 : Int32).toInt = 9 from rfl)
                exact k _ (rf_w J (by omega) (by omega) (by omega) (by omega))
            · have d283 : ¬ ((z_fi M 1577 (n + 40))).toInt = 4 := i_ne c275 rfl (show (4 : Int32).toInt = 4 from rfl)
              refine And.intro (fun c284 => ?_) (fun c284 => ?_)
              · have d285 : ((z_fi M 1577 (n + 40))).toInt = 5 := i_eq c284 rfl (show (5 : Int32).toInt = 5 from rfl)
                refine And.intro (fun c286 => ?_) (fun c286 => ?_)
                · have d287 : (x_42).toInt = 9 := i_eq c286 rfl (show (9 : Int32).toInt = 9 from rfl)
                  refine And.intro (fun c288 => ?_) (fun c288 => ?_)
                  · have d289 : ((z_fi M 1577 (n + 40))).toInt = 4 := i_eq c288 rfl (show (4 : Int32).toInt = 4 from rfl)
                    exact k _ (rf_w J (by omega) (by omega) (by omega) (by omega))
                  · have d290 : ¬ ((z_fi M 1577 (n + 40))).toInt = 4 := i_ne c288 rfl (show (4 : Int32).toInt = 4 from rfl)
                    intro M_4w37 e_M_4w37
                    have J_M_4w37 := w_1577 J e_M_4w37 (by decide)
                    exact k _ (rf_w J_M_4w37 (by omega) (by omega) (by omega) (by omega))
                · have d291 : ¬ (x_42).toInt = 9 := i_ne c286 rfl (show (9 : Int32).toInt = 9 from rfl)
                  exact k _ (rf_w J (by omega) (by omega) (by omega) (by omega))
              · have d292 : ¬ ((z_fi M 1577 (n + 40))).toInt = 5 := i_ne c284 rfl (show (5 : Int32).toInt = 5 from rfl)
                refine z_nn_of (s_1557_40 J.1) ?_
                refine And.intro (by exact vp_of (L := 3600) (s_l59 J.1) (by omega) (by omega)) ?_
                refine z_nn_of (s_1615_40 J.1) ?_
                refine And.intro (by have b293 := a_59 J (p1 : Int32).toNatClampNeg; exact vp_of (L := 2) (s_l92 J.1) (by omega) (by omega)) ?_
                intro M_16w35 e_M_16w35
                have J_M_16w35 := w_sai J e_M_16w35 (by decide +kernel)
                exact k _ (rf_w J_M_16w35 (by omega) (by omega) (by omega) (by omega))
          · have d294 : ¬ (x_42).toInt = 8 := i_ne c273 rfl (show (8 : Int32).toInt = 8 from rfl)
            refine And.intro (fun c295 => ?_) (fun c295 => ?_)
            · have d296 : (x_42).toInt = 9 := i_eq c295 rfl (show (9 : Int32).toInt = 9 from rfl)
              refine And.intro (fun c297 => ?_) (fun c297 => ?_)
              · have d298 : ((z_fi M 1577 (n + 40))).toInt = 4 := i_eq c297 rfl (show (4 : Int32).toInt = 4 from rfl)
                exact k _ (rf_w J (by omega) (by omega) (by omega) (by omega))
              · have d299 : ¬ ((z_fi M 1577 (n + 40))).toInt = 4 := i_ne c297 rfl (show (4 : Int32).toInt = 4 from rfl)
                intro M_4w38 e_M_4w38
                have J_M_4w38 := w_1577 J e_M_4w38 (by decide)
                exact k _ (rf_w J_M_4w38 (by omega) (by omega) (by omega) (by omega))
            · have d300 : ¬ (x_42).toInt = 9 := i_ne c295 rfl (show (9 : Int32).toInt = 9 from rfl)
              exact k _ (rf_w J (by omega) (by omega) (by omega) (by omega))
  · have d301 : ¬ (x_42).toInt = 5 := i_ne c1 rfl (show (5 : Int32).toInt = 5 from rfl)
    refine And.intro (fun c302 => ?_) (fun c302 => ?_)
    · have d303 : (x_42).toInt = 6 := i_eq c302 rfl (show (6 : Int32).toInt = 6 from rfl)
      refine And.intro (fun c304 => ?_) (fun c304 => ?_)
      · have d305 : ((z_fi M 1577 (n + 40))).toInt = 1 := i_eq c304 rfl (show (1 : Int32).toInt = 1 from rfl)
        refine z_nn_of (s_1556_40 J.1) ?_
        refine And.intro (by exact vp_of (L := 3600) (s_l58 J.1) (by omega) (by omega)) ?_
        refine And.intro (fun c306 => ?_) (fun c306 => ?_)
        · have b307 := a_58 J (p1 : Int32).toNatClampNeg
          have d308 : ((z_ai M (n + 58) (p1 : Int32).toNatClampNeg)).toInt = 1 := i_eq c306 rfl (show (1 : Int32).toInt = 1 from rfl)
          refine t_X12_hearsAccept J (fun M_38w39 J_M_38w39 => ?_)
          exact k _ (rf_w J_M_38w39 (by omega) (by omega) (by omega) (by omega))
        · have b309 := a_58 J (p1 : Int32).toNatClampNeg
          have d310 : ¬ ((z_ai M (n + 58) (p1 : Int32).toNatClampNeg)).toInt = 1 := i_ne c306 rfl (show (1 : Int32).toInt = 1 from rfl)
          refine t_X12_hearsAccept J (fun M_37w39 J_M_37w39 => ?_)
          exact k _ (rf_w J_M_37w39 (by omega) (by omega) (by omega) (by omega))
      · have d311 : ¬ ((z_fi M 1577 (n + 40))).toInt = 1 := i_ne c304 rfl (show (1 : Int32).toInt = 1 from rfl)
        refine And.intro (fun c312 => ?_) (fun c312 => ?_)
        · have d313 : (x_42).toInt = 7 := i_eq c312 rfl (show (7 : Int32).toInt = 7 from rfl)
          refine And.intro (fun c314 => ?_) (fun c314 => ?_)
          · have d315 : ((z_fi M 1577 (n + 40))).toInt = 2 := i_eq c314 rfl (show (2 : Int32).toInt = 2 from rfl)
            refine z_nn_of (s_1556_40 J.1) ?_
            refine And.intro (by exact vp_of (L := 3600) (s_l58 J.1) (by omega) (by omega)) ?_
            refine t_X12_hearsAck J (by have b316 := a_58 J (p1 : Int32).toNatClampNeg; omega) (fun M_23w40 J_M_23w40 => ?_)
            exact k _ (rf_w J_M_23w40 (by omega) (by omega) (by omega) (by omega))
          · have d317 : ¬ ((z_fi M 1577 (n + 40))).toInt = 2 := i_ne c314 rfl (show (2 : Int32).toInt = 2 from rfl)
            refine And.intro (fun c318 => ?_) (fun c318 => ?_)
            · have d319 : ((z_fi M 1577 (n + 40))).toInt = 3 := i_eq c318 rfl (show (3 : Int32).toInt = 3 from rfl)
              refine z_nn_of (s_1556_40 J.1) ?_
              refine And.intro (by exact vp_of (L := 3600) (s_l58 J.1) (by omega) (by omega)) ?_
              refine t_X12_hearsAck J (by have b320 := a_58 J (p1 : Int32).toNatClampNeg; omega) (fun M_29w40 J_M_29w40 => ?_)
              exact k _ (rf_w J_M_29w40 (by omega) (by omega) (by omega) (by omega))
            · have d321 : ¬ ((z_fi M 1577 (n + 40))).toInt = 3 := i_ne c318 rfl (show (3 : Int32).toInt = 3 from rfl)
              refine And.intro (fun c322 => ?_) (fun c322 => ?_)
              · have d323 : (x_42).toInt = 8 := i_eq c322 rfl (show (8 : Int32).toInt = 8 from rfl)
                refine And.intro (fun c324 => ?_) (fun c324 => ?_)
                · have d325 : ((z_fi M 1577 (n + 40))).toInt = 4 := i_eq c324 rfl (show (4 : Int32).toInt = 4 from rfl)
                  refine And.intro (fun c326 => ?_) (fun c326 => ?_)
                  · have d327 : (x_42).toInt = 9 := i_eq c326 rfl (show (9 : Int32).toInt = 9 from rfl)
                    refine And.intro (fun c328 => ?_) (fun c328 => ?_)
                    · have d329 : ((z_fi M 1577 (n + 40))).toInt = 4 := i_eq c328 rfl (show (4 : Int32).toInt = 4 from rfl)
                      exact k _ (rf_w J (by omega) (by omega) (by omega) (by omega))
                    · have d330 : ¬ ((z_fi M 1577 (n + 40))).toInt = 4 := i_ne c328 rfl (show (4 : Int32).toInt = 4 from rfl)
                      intro M_4w42 e_M_4w42
                      have J_M_4w42 := w_1577 J e_M_4w42 (by decide)
                      exact k _ (rf_w J_M_4w42 (by omega) (by omega) (by omega) (by omega))
                  · have d331 : ¬ (x_42).toInt = 9 := i_ne c326 rfl (show (9 : Int32).toInt = 9 from rfl)
                    exact k _ (rf_w J (by omega) (by omega) (by omega) (by omega))
                · have d332 : ¬ ((z_fi M 1577 (n + 40))).toInt = 4 := i_ne c324 rfl (show (4 : Int32).toInt = 4 from rfl)
                  refine And.intro (fun c333 => ?_) (fun c333 => ?_)
                  · have d334 : ((z_fi M 1577 (n + 40))).toInt = 5 := i_eq c333 rfl (show (5 : Int32).toInt = 5 from rfl)
                    refine And.intro (fun c335 => ?_) (fun c335 => ?_)
                    · have d336 : (x_42).toInt = 9 := i_eq c335 rfl (show (9 : Int32).toInt = 9 from rfl)
                      refine And.intro (fun c337 => ?_) (fun c337 => ?_)
                      · have d338 : ((z_fi M 1577 (n + 40))).toInt = 4 := i_eq c337 rfl (show (4 : Int32).toInt = 4 from rfl)
                        exact k _ (rf_w J (by omega) (by omega) (by omega) (by omega))
                      · have d339 : ¬ ((z_fi M 1577 (n + 40))).toInt = 4 := i_ne c337 rfl (show (4 : Int32).toInt = 4 from rfl)
                        intro M_4w43 e_M_4w43
                        have J_M_4w43 := w_1577 J e_M_4w43 (by decide)
                        exact k _ (rf_w J_M_4w43 (by omega) (by omega) (by omega) (by omega))
                    · have d340 : ¬ (x_42).toInt = 9 := i_ne c335 rfl (show (9 : Int32).toInt = 9 from rfl)
                      exact k _ (rf_w J (by omega) (by omega) (by omega) (by omega))
                  · have d341 : ¬ ((z_fi M 1577 (n + 40))).toInt = 5 := i_ne c333 rfl (show (5 : Int32).toInt = 5 from rfl)
                    refine z_nn_of (s_1557_40 J.1) ?_
                    refine And.intro (by exact vp_of (L := 3600) (s_l59 J.1) (by omega) (by omega)) ?_
                    refine z_nn_of (s_1615_40 J.1) ?_
                    refine And.intro (by have b342 := a_59 J (p1 : Int32).toNatClampNeg; exact vp_of (L := 2) (s_l92 J.1) (by omega) (by omega)) ?_
                    intro M_16w41 e_M_16w41
                    have J_M_16w41 := w_sai J e_M_16w41 (by decide +kernel)
                    exact k _ (rf_w J_M_16w41 (by omega) (by omega) (by omega) (by omega))
              · have d343 : ¬ (x_42).toInt = 8 := i_ne c322 rfl (show (8 : Int32).toInt = 8 from rfl)
                refine And.intro (fun c344 => ?_) (fun c344 => ?_)
                · have d345 : (x_42).toInt = 9 := i_eq c344 rfl (show (9 : Int32).toInt = 9 from rfl)
                  refine And.intro (fun c346 => ?_) (fun c346 => ?_)
                  · have d347 : ((z_fi M 1577 (n + 40))).toInt = 4 := i_eq c346 rfl (show (4 : Int32).toInt = 4 from rfl)
                    exact k _ (rf_w J (by omega) (by omega) (by omega) (by omega))
                  · have d348 : ¬ ((z_fi M 1577 (n + 40))).toInt = 4 := i_ne c346 rfl (show (4 : Int32).toInt = 4 from rfl)
                    intro M_4w44 e_M_4w44
                    have J_M_4w44 := w_1577 J e_M_4w44 (by decide)
                    exact k _ (rf_w J_M_4w44 (by omega) (by omega) (by omega) (by omega))
                · have d349 : ¬ (x_42).toInt = 9 := i_ne c344 rfl (show (9 : Int32).toInt = 9 from rfl)
                  exact k _ (rf_w J (by omega) (by omega) (by omega) (by omega))
        · have d350 : ¬ (x_42).toInt = 7 := i_ne c312 rfl (show (7 : Int32).toInt = 7 from rfl)
          refine And.intro (fun c351 => ?_) (fun c351 => ?_)
          · have d352 : (x_42).toInt = 8 := i_eq c351 rfl (show (8 : Int32).toInt = 8 from rfl)
            refine And.intro (fun c353 => ?_) (fun c353 => ?_)
            · have d354 : ((z_fi M 1577 (n + 40))).toInt = 4 := i_eq c353 rfl (show (4 : Int32).toInt = 4 from rfl)
              refine And.intro (fun c355 => ?_) (fun c355 => ?_)
              · have d356 : (x_42).toInt = 9 := i_eq c355 rfl (show (9 : Int32).toInt = 9 from rfl)
                refine And.intro (fun c357 => ?_) (fun c357 => ?_)
                · have d358 : ((z_fi M 1577 (n + 40))).toInt = 4 := i_eq c357 rfl (show (4 : Int32).toInt = 4 from rfl)
                  exact k _ (rf_w J (by omega) (by omega) (by omega) (by omega))
                · have d359 : ¬ ((z_fi M 1577 (n + 40))).toInt = 4 := i_ne c357 rfl (show (4 : Int32).toInt = 4 from rfl)
                  intro M_4w46 e_M_4w46
                  have J_M_4w46 := w_1577 J e_M_4w46 (by decide)
                  exact k _ (rf_w J_M_4w46 (by omega) (by omega) (by omega) (by omega))
              · have d360 : ¬ (x_42).toInt = 9 := i_ne c355 rfl (show (9 : Int32).toInt = 9 from rfl)
                exact k _ (rf_w J (by omega) (by omega) (by omega) (by omega))
            · have d361 : ¬ ((z_fi M 1577 (n + 40))).toInt = 4 := i_ne c353 rfl (show (4 : Int32).toInt = 4 from rfl)
              refine And.intro (fun c362 => ?_) (fun c362 => ?_)
              · have d363 : ((z_fi M 1577 (n + 40))).toInt = 5 := i_eq c362 rfl (show (5 : Int32).toInt = 5 from rfl)
                refine And.intro (fun c364 => ?_) (fun c364 => ?_)
                · have d365 : (x_42).toInt = 9 := i_eq c364 rfl (show (9 : Int32).toInt = 9 from rfl)
                  refine And.intro (fun c366 => ?_) (fun c366 => ?_)
                  · have d367 : ((z_fi M 1577 (n + 40))).toInt = 4 := i_eq c366 rfl (show (4 : Int32).toInt = 4 from rfl)
                    exact k _ (rf_w J (by omega) (by omega) (by omega) (by omega))
                  · have d368 : ¬ ((z_fi M 1577 (n + 40))).toInt = 4 := i_ne c366 rfl (show (4 : Int32).toInt = 4 from rfl)
                    intro M_4w47 e_M_4w47
                    have J_M_4w47 := w_1577 J e_M_4w47 (by decide)
                    exact k _ (rf_w J_M_4w47 (by omega) (by omega) (by omega) (by omega))
                · have d369 : ¬ (x_42).toInt = 9 := i_ne c364 rfl (show (9 : Int32).toInt = 9 from rfl)
                  exact k _ (rf_w J (by omega) (by omega) (by omega) (by omega))
              · have d370 : ¬ ((z_fi M 1577 (n + 40))).toInt = 5 := i_ne c362 rfl (show (5 : Int32).toInt = 5 from rfl)
                refine z_nn_of (s_1557_40 J.1) ?_
                refine And.intro (by exact vp_of (L := 3600) (s_l59 J.1) (by omega) (by omega)) ?_
                refine z_nn_of (s_1615_40 J.1) ?_
                refine And.intro (by have b371 := a_59 J (p1 : Int32).toNatClampNeg; exact vp_of (L := 2) (s_l92 J.1) (by omega) (by omega)) ?_
                intro M_16w45 e_M_16w45
                have J_M_16w45 := w_sai J e_M_16w45 (by decide +kernel)
                exact k _ (rf_w J_M_16w45 (by omega) (by omega) (by omega) (by omega))
          · have d372 : ¬ (x_42).toInt = 8 := i_ne c351 rfl (show (8 : Int32).toInt = 8 from rfl)
            refine And.intro (fun c373 => ?_) (fun c373 => ?_)
            · have d374 : (x_42).toInt = 9 := i_eq c373 rfl (show (9 : Int32).toInt = 9 from rfl)
              refine And.intro (fun c375 => ?_) (fun c375 => ?_)
              · have d376 : ((z_fi M 1577 (n + 40))).toInt = 4 := i_eq c375 rfl (show (4 : Int32).toInt = 4 from rfl)
                exact k _ (rf_w J (by omega) (by omega) (by omega) (by omega))
              · have d377 : ¬ ((z_fi M 1577 (n + 40))).toInt = 4 := i_ne c375 rfl (show (4 : Int32).toInt = 4 from rfl)
                intro M_4w48 e_M_4w48
                have J_M_4w48 := w_1577 J e_M_4w48 (by decide)
                exact k _ (rf_w J_M_4w48 (by omega) (by omega) (by omega) (by omega))
            · have d378 : ¬ (x_42).toInt = 9 := i_ne c373 rfl (show (9 : Int32).toInt = 9 from rfl)
              exact k _ (rf_w J (by omega) (by omega) (by omega) (by omega))
    · have d379 : ¬ (x_42).toInt = 6 := i_ne c302 rfl (show (6 : Int32).toInt = 6 from rfl)
      refine And.intro (fun c380 => ?_) (fun c380 => ?_)
      · have d381 : (x_42).toInt = 7 := i_eq c380 rfl (show (7 : Int32).toInt = 7 from rfl)
        refine And.intro (fun c382 => ?_) (fun c382 => ?_)
        · have d383 : ((z_fi M 1577 (n + 40))).toInt = 2 := i_eq c382 rfl (show (2 : Int32).toInt = 2 from rfl)
          refine z_nn_of (s_1556_40 J.1) ?_
          refine And.intro (by exact vp_of (L := 3600) (s_l58 J.1) (by omega) (by omega)) ?_
          refine t_X12_hearsAck J (by have b384 := a_58 J (p1 : Int32).toNatClampNeg; omega) (fun M_23w49 J_M_23w49 => ?_)
          exact k _ (rf_w J_M_23w49 (by omega) (by omega) (by omega) (by omega))
        · have d385 : ¬ ((z_fi M 1577 (n + 40))).toInt = 2 := i_ne c382 rfl (show (2 : Int32).toInt = 2 from rfl)
          refine And.intro (fun c386 => ?_) (fun c386 => ?_)
          · have d387 : ((z_fi M 1577 (n + 40))).toInt = 3 := i_eq c386 rfl (show (3 : Int32).toInt = 3 from rfl)
            refine z_nn_of (s_1556_40 J.1) ?_
            refine And.intro (by exact vp_of (L := 3600) (s_l58 J.1) (by omega) (by omega)) ?_
            refine t_X12_hearsAck J (by have b388 := a_58 J (p1 : Int32).toNatClampNeg; omega) (fun M_29w49 J_M_29w49 => ?_)
            exact k _ (rf_w J_M_29w49 (by omega) (by omega) (by omega) (by omega))
          · have d389 : ¬ ((z_fi M 1577 (n + 40))).toInt = 3 := i_ne c386 rfl (show (3 : Int32).toInt = 3 from rfl)
            refine And.intro (fun c390 => ?_) (fun c390 => ?_)
            · have d391 : (x_42).toInt = 8 := i_eq c390 rfl (show (8 : Int32).toInt = 8 from rfl)
              refine And.intro (fun c392 => ?_) (fun c392 => ?_)
              · have d393 : ((z_fi M 1577 (n + 40))).toInt = 4 := i_eq c392 rfl (show (4 : Int32).toInt = 4 from rfl)
                refine And.intro (fun c394 => ?_) (fun c394 => ?_)
                · have d395 : (x_42).toInt = 9 := i_eq c394 rfl (show (9 : Int32).toInt = 9 from rfl)
                  refine And.intro (fun c396 => ?_) (fun c396 => ?_)
                  · have d397 : ((z_fi M 1577 (n + 40))).toInt = 4 := i_eq c396 rfl (show (4 : Int32).toInt = 4 from rfl)
                    exact k _ (rf_w J (by omega) (by omega) (by omega) (by omega))
                  · have d398 : ¬ ((z_fi M 1577 (n + 40))).toInt = 4 := i_ne c396 rfl (show (4 : Int32).toInt = 4 from rfl)
                    intro M_4w51 e_M_4w51
                    have J_M_4w51 := w_1577 J e_M_4w51 (by decide)
                    exact k _ (rf_w J_M_4w51 (by omega) (by omega) (by omega) (by omega))
                · have d399 : ¬ (x_42).toInt = 9 := i_ne c394 rfl (show (9 : Int32).toInt = 9 from rfl)
                  exact k _ (rf_w J (by omega) (by omega) (by omega) (by omega))
              · have d400 : ¬ ((z_fi M 1577 (n + 40))).toInt = 4 := i_ne c392 rfl (show (4 : Int32).toInt = 4 from rfl)
                refine And.intro (fun c401 => ?_) (fun c401 => ?_)
                · have d402 : ((z_fi M 1577 (n + 40))).toInt = 5 := i_eq c401 rfl (show (5 : Int32).toInt = 5 from rfl)
                  refine And.intro (fun c403 => ?_) (fun c403 => ?_)
                  · have d404 : (x_42).toInt = 9 := i_eq c403 rfl (show (9 : Int32).toInt = 9 from rfl)
                    refine And.intro (fun c405 => ?_) (fun c405 => ?_)
                    · have d406 : ((z_fi M 1577 (n + 40))).toInt = 4 := i_eq c405 rfl (show (4 : Int32).toInt = 4 from rfl)
                      exact k _ (rf_w J (by omega) (by omega) (by omega) (by omega))
                    · have d407 : ¬ ((z_fi M 1577 (n + 40))).toInt = 4 := i_ne c405 rfl (show (4 : Int32).toInt = 4 from rfl)
                      intro M_4w52 e_M_4w52
                      have J_M_4w52 := w_1577 J e_M_4w52 (by decide)
                      exact k _ (rf_w J_M_4w52 (by omega) (by omega) (by omega) (by omega))
                  · have d408 : ¬ (x_42).toInt = 9 := i_ne c403 rfl (show (9 : Int32).toInt = 9 from rfl)
                    exact k _ (rf_w J (by omega) (by omega) (by omega) (by omega))
                · have d409 : ¬ ((z_fi M 1577 (n + 40))).toInt = 5 := i_ne c401 rfl (show (5 : Int32).toInt = 5 from rfl)
                  refine z_nn_of (s_1557_40 J.1) ?_
                  refine And.intro (by exact vp_of (L := 3600) (s_l59 J.1) (by omega) (by omega)) ?_
                  refine z_nn_of (s_1615_40 J.1) ?_
                  refine And.intro (by have b410 := a_59 J (p1 : Int32).toNatClampNeg; exact vp_of (L := 2) (s_l92 J.1) (by omega) (by omega)) ?_
                  intro M_16w50 e_M_16w50
                  have J_M_16w50 := w_sai J e_M_16w50 (by decide +kernel)
                  exact k _ (rf_w J_M_16w50 (by omega) (by omega) (by omega) (by omega))
            · have d411 : ¬ (x_42).toInt = 8 := i_ne c390 rfl (show (8 : Int32).toInt = 8 from rfl)
              refine And.intro (fun c412 => ?_) (fun c412 => ?_)
              · have d413 : (x_42).toInt = 9 := i_eq c412 rfl (show (9 : Int32).toInt = 9 from rfl)
                refine And.intro (fun c414 => ?_) (fun c414 => ?_)
                · have d415 : ((z_fi M 1577 (n + 40))).toInt = 4 := i_eq c414 rfl (show (4 : Int32).toInt = 4 from rfl)
                  exact k _ (rf_w J (by omega) (by omega) (by omega) (by omega))
                · have d416 : ¬ ((z_fi M 1577 (n + 40))).toInt = 4 := i_ne c414 rfl (show (4 : Int32).toInt = 4 from rfl)
                  intro M_4w53 e_M_4w53
                  have J_M_4w53 := w_1577 J e_M_4w53 (by decide)
                  exact k _ (rf_w J_M_4w53 (by omega) (by omega) (by omega) (by omega))
              · have d417 : ¬ (x_42).toInt = 9 := i_ne c412 rfl (show (9 : Int32).toInt = 9 from rfl)
                exact k _ (rf_w J (by omega) (by omega) (by omega) (by omega))
      · have d418 : ¬ (x_42).toInt = 7 := i_ne c380 rfl (show (7 : Int32).toInt = 7 from rfl)
        refine And.intro (fun c419 => ?_) (fun c419 => ?_)
        · have d420 : (x_42).toInt = 8 := i_eq c419 rfl (show (8 : Int32).toInt = 8 from rfl)
          refine And.intro (fun c421 => ?_) (fun c421 => ?_)
          · have d422 : ((z_fi M 1577 (n + 40))).toInt = 4 := i_eq c421 rfl (show (4 : Int32).toInt = 4 from rfl)
            refine And.intro (fun c423 => ?_) (fun c423 => ?_)
            · have d424 : (x_42).toInt = 9 := i_eq c423 rfl (show (9 : Int32).toInt = 9 from rfl)
              refine And.intro (fun c425 => ?_) (fun c425 => ?_)
              · have d426 : ((z_fi M 1577 (n + 40))).toInt = 4 := i_eq c425 rfl (show (4 : Int32).toInt = 4 from rfl)
                exact k _ (rf_w J (by omega) (by omega) (by omega) (by omega))
              · have d427 : ¬ ((z_fi M 1577 (n + 40))).toInt = 4 := i_ne c425 rfl (show (4 : Int32).toInt = 4 from rfl)
                intro M_4w55 e_M_4w55
                have J_M_4w55 := w_1577 J e_M_4w55 (by decide)
                exact k _ (rf_w J_M_4w55 (by omega) (by omega) (by omega) (by omega))
            · have d428 : ¬ (x_42).toInt = 9 := i_ne c423 rfl (show (9 : Int32).toInt = 9 from rfl)
              exact k _ (rf_w J (by omega) (by omega) (by omega) (by omega))
          · have d429 : ¬ ((z_fi M 1577 (n + 40))).toInt = 4 := i_ne c421 rfl (show (4 : Int32).toInt = 4 from rfl)
            refine And.intro (fun c430 => ?_) (fun c430 => ?_)
            · have d431 : ((z_fi M 1577 (n + 40))).toInt = 5 := i_eq c430 rfl (show (5 : Int32).toInt = 5 from rfl)
              refine And.intro (fun c432 => ?_) (fun c432 => ?_)
              · have d433 : (x_42).toInt = 9 := i_eq c432 rfl (show (9 : Int32).toInt = 9 from rfl)
                refine And.intro (fun c434 => ?_) (fun c434 => ?_)
                · have d435 : ((z_fi M 1577 (n + 40))).toInt = 4 := i_eq c434 rfl (show (4 : Int32).toInt = 4 from rfl)
                  exact k _ (rf_w J (by omega) (by omega) (by omega) (by omega))
                · have d436 : ¬ ((z_fi M 1577 (n + 40))).toInt = 4 := i_ne c434 rfl (show (4 : Int32).toInt = 4 from rfl)
                  intro M_4w56 e_M_4w56
                  have J_M_4w56 := w_1577 J e_M_4w56 (by decide)
                  exact k _ (rf_w J_M_4w56 (by omega) (by omega) (by omega) (by omega))
              · have d437 : ¬ (x_42).toInt = 9 := i_ne c432 rfl (show (9 : Int32).toInt = 9 from rfl)
                exact k _ (rf_w J (by omega) (by omega) (by omega) (by omega))
            · have d438 : ¬ ((z_fi M 1577 (n + 40))).toInt = 5 := i_ne c430 rfl (show (5 : Int32).toInt = 5 from rfl)
              refine z_nn_of (s_1557_40 J.1) ?_
              refine And.intro (by exact vp_of (L := 3600) (s_l59 J.1) (by omega) (by omega)) ?_
              refine z_nn_of (s_1615_40 J.1) ?_
              refine And.intro (by have b439 := a_59 J (p1 : Int32).toNatClampNeg; exact vp_of (L := 2) (s_l92 J.1) (by omega) (by omega)) ?_
              intro M_16w54 e_M_16w54
              have J_M_16w54 := w_sai J e_M_16w54 (by decide +kernel)
              exact k _ (rf_w J_M_16w54 (by omega) (by omega) (by omega) (by omega))
        · have d440 : ¬ (x_42).toInt = 8 := i_ne c419 rfl (show (8 : Int32).toInt = 8 from rfl)
          refine And.intro (fun c441 => ?_) (fun c441 => ?_)
          · have d442 : (x_42).toInt = 9 := i_eq c441 rfl (show (9 : Int32).toInt = 9 from rfl)
            refine And.intro (fun c443 => ?_) (fun c443 => ?_)
            · have d444 : ((z_fi M 1577 (n + 40))).toInt = 4 := i_eq c443 rfl (show (4 : Int32).toInt = 4 from rfl)
              exact k _ (rf_w J (by omega) (by omega) (by omega) (by omega))
            · have d445 : ¬ ((z_fi M 1577 (n + 40))).toInt = 4 := i_ne c443 rfl (show (4 : Int32).toInt = 4 from rfl)
              intro M_4w57 e_M_4w57
              have J_M_4w57 := w_1577 J e_M_4w57 (by decide)
              exact k _ (rf_w J_M_4w57 (by omega) (by omega) (by omega) (by omega))
          · have d446 : ¬ (x_42).toInt = 9 := i_ne c441 rfl (show (9 : Int32).toInt = 9 from rfl)
            exact k _ (rf_w J (by omega) (by omega) (by omega) (by omega))
theorem t_X12_newOf {n t s q z : Nat} {M0 : z_Mem} {p1 : Int32} {M : z_Mem} {Post : Int32 → z_Mem → Prop} (J : rf_J n t s q z M0 M) (h_p1 : 0 ≤ p1.toInt ∧ p1.toInt ≤ 3) (k : ∀ r, (0 < r.toInt → r.toInt ≤ 10 ∧ r.toInt ≤ (z_ai M (n + 66) (p1).toNatClampNeg).toInt - (z_ai M (n + 67) (p1).toNatClampNeg).toInt) → Post r M) : P_X12_newOf (n + 40) p1 M Post := by
  have T0 : (0 : Int32).toInt = 0 := rfl; have T1 : (1 : Int32).toInt = 1 := rfl; have T2 : (2 : Int32).toInt = 2 := rfl; have T10 : (10 : Int32).toInt = 10 := rfl
  refine z_nn_of (s_1586_40 J.1) ?_
  refine And.intro (by exact vp_of (L := 4) (s_l66 J.1) (by omega) (by omega)) ?_
  refine z_nn_of (s_1587_40 J.1) ?_
  refine And.intro (by exact vp_of (L := 4) (s_l67 J.1) (by omega) (by omega)) ?_
  intro x_10 e_x_10
  have b1 := a_66 J (p1 : Int32).toNatClampNeg
  have b2 := a_67 J (p1 : Int32).toNatClampNeg
  have t_x_10 : x_10.toInt = (((z_ai M (n + 66) (p1 : Int32).toNatClampNeg)).toInt - ((z_ai M (n + 67) (p1 : Int32).toNatClampNeg)).toInt) := by rw [e_x_10]; exact (show (((z_ai M (n + 66) (p1 : Int32).toNatClampNeg) - (z_ai M (n + 67) (p1 : Int32).toNatClampNeg)) : Int32).toInt = (((z_ai M (n + 66) (p1 : Int32).toNatClampNeg)).toInt - ((z_ai M (n + 67) (p1 : Int32).toNatClampNeg)).toInt) from i_subE rfl rfl (by omega) (by omega))
  refine z_nn_of (s_1588_40 J.1) ?_
  refine And.intro (by exact vp_of (L := 4) (s_l68 J.1) (by omega) (by omega)) ?_
  refine z_nn_of (s_1587_40 J.1) ?_
  refine And.intro (by exact vp_of (L := 4) (s_l67 J.1) (by omega) (by omega)) ?_
  intro x_17 e_x_17
  refine t_X12_sentInAll J (fun x_19 => ?_)
  intro x_20 e_x_20
  refine And.intro (fun c3 => ?_) (fun c3 => ?_)
  · have d4 : (x_17).toInt ≤ (x_10).toInt := i_le c3 rfl rfl
    refine And.intro (fun c5 => ?_) (fun c5 => ?_)
    · have d6 : (x_20).toInt ≤ (x_17).toInt := i_le c5 rfl rfl
      refine And.intro (fun c7 => ?_) (fun c7 => ?_)
      · have d8 : (x_20).toInt ≤ 10 := i_le c7 rfl (show (10 : Int32).toInt = 10 from rfl)
        exact k _ (by omega)
      · have d9 : ¬ (x_20).toInt ≤ 10 := i_nle c7 rfl (show (10 : Int32).toInt = 10 from rfl)
        exact k _ (by omega)
    · have d10 : ¬ (x_20).toInt ≤ (x_17).toInt := i_nle c5 rfl rfl
      refine And.intro (fun c11 => ?_) (fun c11 => ?_)
      · have d12 : (x_17).toInt ≤ 10 := i_le c11 rfl (show (10 : Int32).toInt = 10 from rfl)
        exact k _ (by omega)
      · have d13 : ¬ (x_17).toInt ≤ 10 := i_nle c11 rfl (show (10 : Int32).toInt = 10 from rfl)
        exact k _ (by omega)
  · have d14 : ¬ (x_17).toInt ≤ (x_10).toInt := i_nle c3 rfl rfl
    refine And.intro (fun c15 => ?_) (fun c15 => ?_)
    · have d16 : (x_20).toInt ≤ (x_10).toInt := i_le c15 rfl rfl
      refine And.intro (fun c17 => ?_) (fun c17 => ?_)
      · have d18 : (x_20).toInt ≤ 10 := i_le c17 rfl (show (10 : Int32).toInt = 10 from rfl)
        exact k _ (by omega)
      · have d19 : ¬ (x_20).toInt ≤ 10 := i_nle c17 rfl (show (10 : Int32).toInt = 10 from rfl)
        exact k _ (by omega)
    · have d20 : ¬ (x_20).toInt ≤ (x_10).toInt := i_nle c15 rfl rfl
      refine And.intro (fun c21 => ?_) (fun c21 => ?_)
      · have d22 : (x_10).toInt ≤ 10 := i_le c21 rfl (show (10 : Int32).toInt = 10 from rfl)
        exact k _ (by omega)
      · have d23 : ¬ (x_10).toInt ≤ 10 := i_nle c21 rfl (show (10 : Int32).toInt = 10 from rfl)
        exact k _ (by omega)
theorem t_X12_canTake {n t s q z : Nat} {M0 : z_Mem} {p1 : Int32} {M : z_Mem} {Post : Int32 → z_Mem → Prop} (J : rf_J n t s q z M0 M) (h_p1 : 0 ≤ p1.toInt ∧ p1.toInt ≤ 1) (k : ∀ r, Post r M) : P_X12_canTake (n + 40) p1 M Post := by
  have T0 : (0 : Int32).toInt = 0 := rfl; have T1 : (1 : Int32).toInt = 1 := rfl; have T2 : (2 : Int32).toInt = 2 := rfl; have T10 : (10 : Int32).toInt = 10 := rfl
  refine z_nn_of (s_1610_40 J.1) ?_
  refine And.intro (by exact vp_of (L := 2) (s_l87 J.1) (by omega) (by omega)) ?_
  refine t_X12_max J (fun x_13 p0_x_13 p1_x_13 p2_x_13 => ?_)
  refine z_nn_of (s_1607_40 J.1) ?_
  refine And.intro (by exact vp_of (L := 2) (s_l84 J.1) (by omega) (by omega)) ?_
  refine And.intro (i_nz (by omega)) ?_
  refine t_X12_max J (fun x_18 p0_x_18 p1_x_18 p2_x_18 => ?_)
  refine And.intro (fun c1 => ?_) (fun c1 => ?_)
  · have d2 : ((z_fi M 1583 (n + 40))).toInt = 2 := i_eq c1 rfl (show (2 : Int32).toInt = 2 from rfl)
    refine t_X12_inFlight J (fun x_1w1 => ?_)
    refine z_nn_of (s_1607_40 J.1) ?_
    refine And.intro (by exact vp_of (L := 2) (s_l84 J.1) (by omega) (by omega)) ?_
    refine And.intro (fun c3 => ?_) (fun c3 => ?_)
    · exact k _
    · refine z_nn_of (s_1628_40 J.1) ?_
      refine And.intro (by exact vp_of (L := 2) (s_l105 J.1) (by omega) (by omega)) ?_
      refine And.intro (fun c4 => ?_) (fun c4 => ?_)
      · have d5 : (x_18).toInt ≤ ((z_ai M (n + 105) (p1 : Int32).toNatClampNeg)).toInt := i_le c4 rfl rfl
        exact k _
      · have d6 : ¬ (x_18).toInt ≤ ((z_ai M (n + 105) (p1 : Int32).toNatClampNeg)).toInt := i_nle c4 rfl rfl
        exact k _
  · have d7 : ¬ ((z_fi M 1583 (n + 40))).toInt = 2 := i_ne c1 rfl (show (2 : Int32).toInt = 2 from rfl)
    refine And.intro (fun c8 => ?_) (fun c8 => ?_)
    · have d9 : ((z_fi M 1583 (n + 40))).toInt = (p1).toInt := i_eq c8 rfl rfl
      refine t_X12_inFlight J (fun x_1w2 => ?_)
      refine z_nn_of (s_1607_40 J.1) ?_
      refine And.intro (by exact vp_of (L := 2) (s_l84 J.1) (by omega) (by omega)) ?_
      refine And.intro (fun c10 => ?_) (fun c10 => ?_)
      · exact k _
      · refine z_nn_of (s_1628_40 J.1) ?_
        refine And.intro (by exact vp_of (L := 2) (s_l105 J.1) (by omega) (by omega)) ?_
        refine And.intro (fun c11 => ?_) (fun c11 => ?_)
        · have d12 : (x_18).toInt ≤ ((z_ai M (n + 105) (p1 : Int32).toNatClampNeg)).toInt := i_le c11 rfl rfl
          exact k _
        · have d13 : ¬ (x_18).toInt ≤ ((z_ai M (n + 105) (p1 : Int32).toNatClampNeg)).toInt := i_nle c11 rfl rfl
          exact k _
    · have d14 : ¬ ((z_fi M 1583 (n + 40))).toInt = (p1).toInt := i_ne c8 rfl rfl
      exact k _
theorem t_X12_nextPath {n t s q z : Nat} {M0 : z_Mem} {M : z_Mem} {Post : Int32 → z_Mem → Prop} (J : rf_J n t s q z M0 M) (k : ∀ r, (r.toInt = -1 ∨ (0 ≤ r.toInt ∧ r.toInt ≤ 1)) → Post r M) : P_X12_nextPath (n + 40) M Post := by
  have T0 : (0 : Int32).toInt = 0 := rfl; have T1 : (1 : Int32).toInt = 1 := rfl; have T2 : (2 : Int32).toInt = 2 := rfl; have T10 : (10 : Int32).toInt = 10 := rfl
  refine t_X12_canTake J (by rw [(show (0 : Int32).toInt = 0 from rfl)]; omega) (fun x_1 => ?_)
  refine t_X12_canTake J (by rw [(show (1 : Int32).toInt = 1 from rfl)]; omega) (fun x_2 => ?_)
  refine And.intro (fun c1 => ?_) (fun c1 => ?_)
  · have d2 : (x_1).toInt = 0 := i_eq c1 rfl (show (0 : Int32).toInt = 0 from rfl)
    refine And.intro (fun c3 => ?_) (fun c3 => ?_)
    · have d4 : (x_1).toInt = 0 := i_eq c3 rfl (show (0 : Int32).toInt = 0 from rfl)
      refine And.intro (fun c5 => ?_) (fun c5 => ?_)
      · have d6 : (x_2).toInt = 0 := i_eq c5 rfl (show (0 : Int32).toInt = 0 from rfl)
        exact k _ (by decide)
      · have d7 : ¬ (x_2).toInt = 0 := i_ne c5 rfl (show (0 : Int32).toInt = 0 from rfl)
        exact k _ (by decide)
    · have d8 : ¬ (x_1).toInt = 0 := i_ne c3 rfl (show (0 : Int32).toInt = 0 from rfl)
      exact k _ (by decide)
  · have d9 : ¬ (x_1).toInt = 0 := i_ne c1 rfl (show (0 : Int32).toInt = 0 from rfl)
    refine And.intro (fun c10 => ?_) (fun c10 => ?_)
    · have d11 : (x_2).toInt = 0 := i_eq c10 rfl (show (0 : Int32).toInt = 0 from rfl)
      refine And.intro (fun c12 => ?_) (fun c12 => ?_)
      · have d13 : (x_1).toInt = 0 := i_eq c12 rfl (show (0 : Int32).toInt = 0 from rfl)
        refine And.intro (fun c14 => ?_) (fun c14 => ?_)
        · have d15 : (x_2).toInt = 0 := i_eq c14 rfl (show (0 : Int32).toInt = 0 from rfl)
          exact k _ (by decide)
        · have d16 : ¬ (x_2).toInt = 0 := i_ne c14 rfl (show (0 : Int32).toInt = 0 from rfl)
          exact k _ (by decide)
      · have d17 : ¬ (x_1).toInt = 0 := i_ne c12 rfl (show (0 : Int32).toInt = 0 from rfl)
        exact k _ (by decide)
    · have d18 : ¬ (x_2).toInt = 0 := i_ne c10 rfl (show (0 : Int32).toInt = 0 from rfl)
      refine t_X12_inFlight J (fun x_9 => ?_)
      refine t_X12_inFlight J (fun x_10 => ?_)
      refine And.intro (fun c19 => ?_) (fun c19 => ?_)
      · have d20 : (x_10).toInt ≤ (x_9).toInt := i_le c19 rfl rfl
        exact k _ (by decide)
      · have d21 : ¬ (x_10).toInt ≤ (x_9).toInt := i_nle c19 rfl rfl
        exact k _ (by decide)
