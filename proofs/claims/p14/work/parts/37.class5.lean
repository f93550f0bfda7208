/-! ===== THE CLASS: the client hears of packets ===== -/
theorem t_X2_grow {n c s : Nat} {M0 : z_Mem} {a : Nat} {p1 : Int32} {p2 : Int32} {p3 : Int32} {p4 : Int32} {M : z_Mem} {Post : z_Mem → Prop} (I : y_CI n c s M0 M) (ha : a = n + 33 ∨ a = n + 36) (k : ∀ M1, y_CI n c s M0 M1 → Post M1) : P_X2_grow a p1 p2 p3 p4 M Post := by
  have T0 : (0 : Int32).toInt = 0 := rfl; have T1 : (1 : Int32).toInt = 1 := rfl; have T4 : (4 : Int32).toInt = 4 := rfl; have T10 : (10 : Int32).toInt = 10 := rfl; have T30 : (30 : Int32).toInt = 30 := rfl; have T200 : (200 : Int32).toInt = 200 := rfl; have T400 : (400 : Int32).toInt = 400 := rfl
  rcases ha with rfl | rfl <;> (
    refine And.intro (fun c1 => ?_) (fun c1 => ?_)
    · refine And.intro (i_max1) ?_
      refine t_X2_keepRate I (by omega) (fun M_18 I_M_18 => ?_)
      refine t_X2_greatestRate I_M_18 (by omega) (fun x_19 => ?_)
      intro M_20 e_M_20
      have I_M_20 := r_sfi I_M_18 e_M_20 (by decide +kernel)
      exact k _ (r_w I_M_20 (by omega) (by omega))
    · refine And.intro (fun c2 => ?_) (fun c2 => ?_)
      · refine And.intro (fun c3 => ?_) (fun c3 => ?_)
        · refine And.intro (i_max1) ?_
          intro M_14 e_M_14
          have I_M_14 := r_sfi I e_M_14 (by decide +kernel)
          exact k _ (r_w I_M_14 (by omega) (by omega))
        · refine t_X2_cubeStep I (fun x_9 => ?_)
          intro M_10 e_M_10
          have I_M_10 := r_sfi I e_M_10 (by decide +kernel)
          exact k _ (r_w I_M_10 (by omega) (by omega))
      · intro M_16 e_M_16
        have I_M_16 := r_sfi I e_M_16 (by decide +kernel)
        exact k _ (r_w I_M_16 (by omega) (by omega)))
theorem t_X1_acknowledge {n c s : Nat} {M0 : z_Mem} {a : Nat} {p1 : Option Nat} {M : z_Mem} {Post : z_Mem → Prop} (I : y_CI n c s M0 M) (ha : a = n + 31) (k : ∀ M1, y_CI n c s M0 M1 → Post M1) : P_X1_acknowledge a p1 M Post := by
  have T0 : (0 : Int32).toInt = 0 := rfl; have T1 : (1 : Int32).toInt = 1 := rfl; have T4 : (4 : Int32).toInt = 4 := rfl; have T10 : (10 : Int32).toInt = 10 := rfl; have T30 : (30 : Int32).toInt = 30 := rfl; have T200 : (200 : Int32).toInt = 200 := rfl; have T400 : (400 : Int32).toInt = 400 := rfl
  subst ha
  refine And.intro (fun hz => ?_) (fun a1 ha1 => ?_)
  · exact k _ (r_w I (by omega) (by omega))
  · subst ha1
    refine And.intro (fun c1 => ?_) (fun c1 => ?_)
    · refine And.intro (fun c2 => ?_) (fun c2 => ?_)
      · refine t_X1_leaveFlight I rfl ⟨_, rfl⟩ (fun M_36 I_M_36 => ?_)
        refine z_nn_of (s_130_31 I.1) ?_
        intro M_39 e_M_39
        have I_M_39 := r_sfi I_M_36 e_M_39 (by decide +kernel)
        intro x_42 e_x_42
        refine z_nn_of (s_128_31 I_M_39.1) ?_
        refine z_nn_of (s_128_31 I_M_39.1) ?_
        first | refine z_nn_of (s_897_32 I_M_39.1) ?_ | refine z_nn_of (s_897_35 I_M_39.1) ?_
        refine t_X2_grow I_M_39 (by omega) (fun M_52 I_M_52 => ?_)
        intro M_56 e_M_56
        have I_M_56 := r_sfi I_M_52 e_M_56 (by decide +kernel)
        exact k _ (r_w I_M_56 (by omega) (by omega))
      · refine And.intro (fun c3 => ?_) (fun c3 => ?_)
        · intro M_8 e_M_8
          have I_M_8 := r_sfi I e_M_8 (by decide +kernel)
          refine z_nn_of (s_130_31 I.1) ?_
          intro M_11 e_M_11
          have I_M_11 := r_sfi I_M_8 e_M_11 (by decide +kernel)
          refine And.intro (fun c4 => ?_) (fun c4 => ?_)
          · first | refine z_nn_of (s_897_32 I_M_11.1) ?_ | refine z_nn_of (s_897_35 I_M_11.1) ?_
            refine t_X2_takeBackHarm I_M_11 (by omega) (fun M_16 I_M_16 => ?_)
            exact k _ (r_w I_M_16 (by omega) (by omega))
          · refine And.intro (fun c5 => ?_) (fun c5 => ?_)
            · first | refine z_nn_of (s_897_32 I_M_11.1) ?_ | refine z_nn_of (s_897_35 I_M_11.1) ?_
              refine t_X2_takeBackHarm I_M_11 (by omega) (fun M_22 I_M_22 => ?_)
              exact k _ (r_w I_M_22 (by omega) (by omega))
            · refine z_nn_of (s_129_31 I_M_11.1) ?_
              refine And.intro (vp_of (L := 4) (s_l11 I_M_11.1) (y_str I_M_11 _).1 (y_str I_M_11 _).2) ?_
              obtain ⟨st6, hs6, hx6⟩ := t_strAt (x := (z_fi M_11 771 a1)) I_M_11.1 (y_str I_M_11 _).1 (y_str I_M_11 _).2
              refine z_nn_of hs6 ?_
              refine t_X9_acknowledge I_M_11 (by omega) (fun M_30 I_M_30 => ?_)
              first | refine z_nn_of (s_897_32 I_M_30.1) ?_ | refine z_nn_of (s_897_35 I_M_30.1) ?_
              refine t_X2_takeBackHarm I_M_30 (by omega) (fun M_34 I_M_34 => ?_)
              exact k _ (r_w I_M_34 (by omega) (by omega))
        · exact k _ (r_w I (by omega) (by omega))
    · refine And.intro (fun c7 => ?_) (fun c7 => ?_)
      · refine t_X1_leaveFlight I rfl ⟨_, rfl⟩ (fun M_36 I_M_36 => ?_)
        refine z_nn_of (s_131_31 I.1) ?_
        intro M_39 e_M_39
        have I_M_39 := r_sfi I_M_36 e_M_39 (by decide +kernel)
        intro x_42 e_x_42
        refine z_nn_of (s_128_31 I_M_39.1) ?_
        refine z_nn_of (s_128_31 I_M_39.1) ?_
        first | refine z_nn_of (s_897_32 I_M_39.1) ?_ | refine z_nn_of (s_897_35 I_M_39.1) ?_
        refine t_X2_grow I_M_39 (by omega) (fun M_52 I_M_52 => ?_)
        intro M_56 e_M_56
        have I_M_56 := r_sfi I_M_52 e_M_56 (by decide +kernel)
        exact k _ (r_w I_M_56 (by omega) (by omega))
      · refine And.intro (fun c8 => ?_) (fun c8 => ?_)
        · intro M_8 e_M_8
          have I_M_8 := r_sfi I e_M_8 (by decide +kernel)
          refine z_nn_of (s_131_31 I.1) ?_
          intro M_11 e_M_11
          have I_M_11 := r_sfi I_M_8 e_M_11 (by decide +kernel)
          refine And.intro (fun c9 => ?_) (fun c9 => ?_)
          · first | refine z_nn_of (s_897_32 I_M_11.1) ?_ | refine z_nn_of (s_897_35 I_M_11.1) ?_
            refine t_X2_takeBackHarm I_M_11 (by omega) (fun M_16 I_M_16 => ?_)
            exact k _ (r_w I_M_16 (by omega) (by omega))
          · refine And.intro (fun c10 => ?_) (fun c10 => ?_)
            · first | refine z_nn_of (s_897_32 I_M_11.1) ?_ | refine z_nn_of (s_897_35 I_M_11.1) ?_
              refine t_X2_takeBackHarm I_M_11 (by omega) (fun M_22 I_M_22 => ?_)
              exact k _ (r_w I_M_22 (by omega) (by omega))
            · refine z_nn_of (s_129_31 I_M_11.1) ?_
              refine And.intro (vp_of (L := 4) (s_l11 I_M_11.1) (y_str I_M_11 _).1 (y_str I_M_11 _).2) ?_
              obtain ⟨st11, hs11, hx11⟩ := t_strAt (x := (z_fi M_11 771 a1)) I_M_11.1 (y_str I_M_11 _).1 (y_str I_M_11 _).2
              refine z_nn_of hs11 ?_
              refine t_X9_acknowledge I_M_11 (by omega) (fun M_30 I_M_30 => ?_)
              first | refine z_nn_of (s_897_32 I_M_30.1) ?_ | refine z_nn_of (s_897_35 I_M_30.1) ?_
              refine t_X2_takeBackHarm I_M_30 (by omega) (fun M_34 I_M_34 => ?_)
              exact k _ (r_w I_M_34 (by omega) (by omega))
        · exact k _ (r_w I (by omega) (by omega))
theorem t_X1_hearOfGreatest {n c s : Nat} {M0 : z_Mem} {a : Nat} {p1 : Option Nat} {p2 : Int32} {p3 : Int32} {M : z_Mem} {Post : z_Mem → Prop} (I : y_CI n c s M0 M) (ha : a = n + 31) (hp : ∃ q, p1 = some q) (k : ∀ M1, y_CI n c s M0 M1 → Post M1) : P_X1_hearOfGreatest a p1 p2 p3 M Post := by
  have T0 : (0 : Int32).toInt = 0 := rfl; have T1 : (1 : Int32).toInt = 1 := rfl; have T4 : (4 : Int32).toInt = 4 := rfl; have T10 : (10 : Int32).toInt = 10 := rfl; have T30 : (30 : Int32).toInt = 30 := rfl; have T200 : (200 : Int32).toInt = 200 := rfl; have T400 : (400 : Int32).toInt = 400 := rfl
  subst ha; obtain ⟨q, rfl⟩ := hp
  refine z_nn_of rfl ?_
  refine And.intro (fun c1 => ?_) (fun c1 => ?_)
  · refine And.intro (fun c2 => ?_) (fun c2 => ?_)
    · refine And.intro (fun c3 => ?_) (fun c3 => ?_)
      · exact k _ (r_w I (by omega) (by omega))
      · intro M_3w2 e_M_3w2
        have I_M_3w2 := r_sfi I e_M_3w2 (by decide +kernel)
        refine z_nn_of (s_130_31 I.1) ?_
        refine z_nn_of rfl ?_
        refine z_nn_of (s_128_31 I_M_3w2.1) ?_
        first | refine z_nn_of (s_897_32 I_M_3w2.1) ?_ | refine z_nn_of (s_897_35 I_M_3w2.1) ?_
        refine t_X2_harm I_M_3w2 (by omega) (fun M_12w2 I_M_12w2 => ?_)
        exact k _ (r_w I_M_12w2 (by omega) (by omega))
    · refine z_nn_of (s_128_31 I.1) ?_
      refine z_nn_of (s_130_31 I.1) ?_
      refine t_X7_measure I (by omega) (fun M_22 I_M_22 => ?_)
      refine And.intro (fun c4 => ?_) (fun c4 => ?_)
      · exact k _ (r_w I_M_22 (by omega) (by omega))
      · intro M_3w3 e_M_3w3
        have I_M_3w3 := r_sfi I_M_22 e_M_3w3 (by decide +kernel)
        refine z_nn_of (s_130_31 I.1) ?_
        refine z_nn_of rfl ?_
        refine z_nn_of (s_128_31 I_M_3w3.1) ?_
        first | refine z_nn_of (s_897_32 I_M_3w3.1) ?_ | refine z_nn_of (s_897_35 I_M_3w3.1) ?_
        refine t_X2_harm I_M_3w3 (by omega) (fun M_12w3 I_M_12w3 => ?_)
        exact k _ (r_w I_M_12w3 (by omega) (by omega))
  · refine And.intro (fun c5 => ?_) (fun c5 => ?_)
    · refine And.intro (fun c6 => ?_) (fun c6 => ?_)
      · exact k _ (r_w I (by omega) (by omega))
      · intro M_3w4 e_M_3w4
        have I_M_3w4 := r_sfi I e_M_3w4 (by decide +kernel)
        refine z_nn_of (s_131_31 I.1) ?_
        refine z_nn_of rfl ?_
        refine z_nn_of (s_128_31 I_M_3w4.1) ?_
        first | refine z_nn_of (s_897_32 I_M_3w4.1) ?_ | refine z_nn_of (s_897_35 I_M_3w4.1) ?_
        refine t_X2_harm I_M_3w4 (by omega) (fun M_12w4 I_M_12w4 => ?_)
        exact k _ (r_w I_M_12w4 (by omega) (by omega))
    · refine z_nn_of (s_128_31 I.1) ?_
      refine z_nn_of (s_131_31 I.1) ?_
      refine t_X7_measure I (by omega) (fun M_22 I_M_22 => ?_)
      refine And.intro (fun c7 => ?_) (fun c7 => ?_)
      · exact k _ (r_w I_M_22 (by omega) (by omega))
      · intro M_3w5 e_M_3w5
        have I_M_3w5 := r_sfi I_M_22 e_M_3w5 (by decide +kernel)
        refine z_nn_of (s_131_31 I.1) ?_
        refine z_nn_of rfl ?_
        refine z_nn_of (s_128_31 I_M_3w5.1) ?_
        first | refine z_nn_of (s_897_32 I_M_3w5.1) ?_ | refine z_nn_of (s_897_35 I_M_3w5.1) ?_
        refine t_X2_harm I_M_3w5 (by omega) (fun M_12w5 I_M_12w5 => ?_)
        exact k _ (r_w I_M_12w5 (by omega) (by omega))
