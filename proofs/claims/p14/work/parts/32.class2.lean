/-! ===== THE CLASS: network, server ===== -/
theorem t_X5_putToServer {n c s : Nat} {M0 : z_Mem} {a : Nat} {p1 : Int32} {p2 : Option Nat} {M : z_Mem} {Post : z_Mem → Prop} (I : y_CI n c s M0 M) (ha : a = n + 1) (hp : ∃ q, p2 = some q) (k : ∀ M1, y_CI n c s M0 M1 → Post M1) : P_X5_putToServer a p1 p2 M Post := by
  have T0 : (0 : Int32).toInt = 0 := rfl; have T1 : (1 : Int32).toInt = 1 := rfl; have T4 : (4 : Int32).toInt = 4 := rfl; have T10 : (10 : Int32).toInt = 10 := rfl; have T30 : (30 : Int32).toInt = 30 := rfl; have T200 : (200 : Int32).toInt = 200 := rfl; have T400 : (400 : Int32).toInt = 400 := rfl
  subst ha; obtain ⟨q, rfl⟩ := hp
  refine And.intro (fun c1 => ?_) (fun c1 => ?_)
  · refine z_nn_of rfl ?_
    intro M_16 e_M_16
    have I_M_16 := r_sfi I e_M_16 (by decide +kernel)
    refine z_nn_of (s_640_1 I.1) ?_
    refine t_X3_letsToServer I_M_16 (by omega) (fun x_17 M_17 I_M_17 => ?_)
    refine And.intro (fun hz => ?_) (fun a20 ha20 => ?_)
    · refine And.intro (fun c2 => ?_) (fun c2 => ?_)
      · exact k _ (r_w I_M_17 (by omega) (by omega))
      · refine t_X3_append I_M_17 (by omega) (fun M_22 I_M_22 => ?_)
        exact k _ (r_w I_M_22 (by omega) (by omega))
    · refine And.intro (fun c3 => ?_) (fun c3 => ?_)
      · refine z_nn_of ha20 ?_
        intro M_2w3 e_M_2w3
        have I_M_2w3 := r_sfi I_M_17 e_M_2w3 (by decide +kernel)
        refine And.intro (fun c4 => ?_) (fun c4 => ?_)
        · refine z_nn_of rfl ?_
          refine z_nn_of (by rw [e_M_2w3, zq_fr_sfi]; exact ha20) ?_
          intro M_10w3 e_M_10w3
          have I_M_10w3 := r_sfi I_M_2w3 e_M_10w3 (by decide +kernel)
          refine And.intro (fun c5 => ?_) (fun c5 => ?_)
          · exact k _ (r_w I_M_10w3 (by omega) (by omega))
          · refine z_nn_of (s_640_1 I.1) ?_
            refine t_X3_append I_M_10w3 (by omega) (fun M_12w3 I_M_12w3 => ?_)
            exact k _ (r_w I_M_12w3 (by omega) (by omega))
        · refine And.intro (fun c6 => ?_) (fun c6 => ?_)
          · exact k _ (r_w I_M_2w3 (by omega) (by omega))
          · refine z_nn_of (s_640_1 I.1) ?_
            refine t_X3_append I_M_2w3 (by omega) (fun M_5w3 I_M_5w3 => ?_)
            exact k _ (r_w I_M_5w3 (by omega) (by omega))
      · refine And.intro (fun c7 => ?_) (fun c7 => ?_)
        · refine z_nn_of ha20 ?_
          intro M_2w5 e_M_2w5
          have I_M_2w5 := r_sfi I_M_17 e_M_2w5 (by decide +kernel)
          refine And.intro (fun c8 => ?_) (fun c8 => ?_)
          · refine z_nn_of rfl ?_
            refine z_nn_of (by rw [e_M_2w5, zq_fr_sfi]; exact ha20) ?_
            intro M_10w5 e_M_10w5
            have I_M_10w5 := r_sfi I_M_2w5 e_M_10w5 (by decide +kernel)
            refine And.intro (fun c9 => ?_) (fun c9 => ?_)
            · exact k _ (r_w I_M_10w5 (by omega) (by omega))
            · refine z_nn_of (s_640_1 I.1) ?_
              refine t_X3_append I_M_10w5 (by omega) (fun M_12w5 I_M_12w5 => ?_)
              exact k _ (r_w I_M_12w5 (by omega) (by omega))
          · refine And.intro (fun c10 => ?_) (fun c10 => ?_)
            · exact k _ (r_w I_M_2w5 (by omega) (by omega))
            · refine z_nn_of (s_640_1 I.1) ?_
              refine t_X3_append I_M_2w5 (by omega) (fun M_5w5 I_M_5w5 => ?_)
              exact k _ (r_w I_M_5w5 (by omega) (by omega))
        · refine z_nn_of ha20 ?_
          intro M_2w6 e_M_2w6
          have I_M_2w6 := r_sfi I_M_17 e_M_2w6 (by decide +kernel)
          refine And.intro (fun c11 => ?_) (fun c11 => ?_)
          · refine z_nn_of rfl ?_
            refine z_nn_of (by rw [e_M_2w6, zq_fr_sfi]; exact ha20) ?_
            intro M_10w6 e_M_10w6
            have I_M_10w6 := r_sfi I_M_2w6 e_M_10w6 (by decide +kernel)
            refine And.intro (fun c12 => ?_) (fun c12 => ?_)
            · exact k _ (r_w I_M_10w6 (by omega) (by omega))
            · refine z_nn_of (s_640_1 I.1) ?_
              refine t_X3_append I_M_10w6 (by omega) (fun M_12w6 I_M_12w6 => ?_)
              exact k _ (r_w I_M_12w6 (by omega) (by omega))
          · refine And.intro (fun c13 => ?_) (fun c13 => ?_)
            · exact k _ (r_w I_M_2w6 (by omega) (by omega))
            · refine z_nn_of (s_640_1 I.1) ?_
              refine t_X3_append I_M_2w6 (by omega) (fun M_5w6 I_M_5w6 => ?_)
              exact k _ (r_w I_M_5w6 (by omega) (by omega))
  · refine z_nn_of rfl ?_
    intro M_16 e_M_16
    have I_M_16 := r_sfi I e_M_16 (by decide +kernel)
    refine z_nn_of (s_641_1 I.1) ?_
    refine t_X3_letsToServer I_M_16 (by omega) (fun x_17 M_17 I_M_17 => ?_)
    refine And.intro (fun hz => ?_) (fun a20 ha20 => ?_)
    · refine And.intro (fun c14 => ?_) (fun c14 => ?_)
      · exact k _ (r_w I_M_17 (by omega) (by omega))
      · refine t_X3_append I_M_17 (by omega) (fun M_22 I_M_22 => ?_)
        exact k _ (r_w I_M_22 (by omega) (by omega))
    · refine And.intro (fun c15 => ?_) (fun c15 => ?_)
      · refine z_nn_of ha20 ?_
        intro M_2w8 e_M_2w8
        have I_M_2w8 := r_sfi I_M_17 e_M_2w8 (by decide +kernel)
        refine And.intro (fun c16 => ?_) (fun c16 => ?_)
        · refine z_nn_of rfl ?_
          refine z_nn_of (by rw [e_M_2w8, zq_fr_sfi]; exact ha20) ?_
          intro M_10w8 e_M_10w8
          have I_M_10w8 := r_sfi I_M_2w8 e_M_10w8 (by decide +kernel)
          refine And.intro (fun c17 => ?_) (fun c17 => ?_)
          · exact k _ (r_w I_M_10w8 (by omega) (by omega))
          · refine z_nn_of (s_641_1 I.1) ?_
            refine t_X3_append I_M_10w8 (by omega) (fun M_12w8 I_M_12w8 => ?_)
            exact k _ (r_w I_M_12w8 (by omega) (by omega))
        · refine And.intro (fun c18 => ?_) (fun c18 => ?_)
          · exact k _ (r_w I_M_2w8 (by omega) (by omega))
          · refine z_nn_of (s_641_1 I.1) ?_
            refine t_X3_append I_M_2w8 (by omega) (fun M_5w8 I_M_5w8 => ?_)
            exact k _ (r_w I_M_5w8 (by omega) (by omega))
      · refine And.intro (fun c19 => ?_) (fun c19 => ?_)
        · refine z_nn_of ha20 ?_
          intro M_2w10 e_M_2w10
          have I_M_2w10 := r_sfi I_M_17 e_M_2w10 (by decide +kernel)
          refine And.intro (fun c20 => ?_) (fun c20 => ?_)
          · refine z_nn_of rfl ?_
            refine z_nn_of (by rw [e_M_2w10, zq_fr_sfi]; exact ha20) ?_
            intro M_10w10 e_M_10w10
            have I_M_10w10 := r_sfi I_M_2w10 e_M_10w10 (by decide +kernel)
            refine And.intro (fun c21 => ?_) (fun c21 => ?_)
            · exact k _ (r_w I_M_10w10 (by omega) (by omega))
            · refine z_nn_of (s_641_1 I.1) ?_
              refine t_X3_append I_M_10w10 (by omega) (fun M_12w10 I_M_12w10 => ?_)
              exact k _ (r_w I_M_12w10 (by omega) (by omega))
          · refine And.intro (fun c22 => ?_) (fun c22 => ?_)
            · exact k _ (r_w I_M_2w10 (by omega) (by omega))
            · refine z_nn_of (s_641_1 I.1) ?_
              refine t_X3_append I_M_2w10 (by omega) (fun M_5w10 I_M_5w10 => ?_)
              exact k _ (r_w I_M_5w10 (by omega) (by omega))
        · refine z_nn_of ha20 ?_
          intro M_2w11 e_M_2w11
          have I_M_2w11 := r_sfi I_M_17 e_M_2w11 (by decide +kernel)
          refine And.intro (fun c23 => ?_) (fun c23 => ?_)
          · refine z_nn_of rfl ?_
            refine z_nn_of (by rw [e_M_2w11, zq_fr_sfi]; exact ha20) ?_
            intro M_10w11 e_M_10w11
            have I_M_10w11 := r_sfi I_M_2w11 e_M_10w11 (by decide +kernel)
            refine And.intro (fun c24 => ?_) (fun c24 => ?_)
            · exact k _ (r_w I_M_10w11 (by omega) (by omega))
            · refine z_nn_of (s_641_1 I.1) ?_
              refine t_X3_append I_M_10w11 (by omega) (fun M_12w11 I_M_12w11 => ?_)
              exact k _ (r_w I_M_12w11 (by omega) (by omega))
          · refine And.intro (fun c25 => ?_) (fun c25 => ?_)
            · exact k _ (r_w I_M_2w11 (by omega) (by omega))
            · refine z_nn_of (s_641_1 I.1) ?_
              refine t_X3_append I_M_2w11 (by omega) (fun M_5w11 I_M_5w11 => ?_)
              exact k _ (r_w I_M_5w11 (by omega) (by omega))
theorem t_X5_putToClient {n c s : Nat} {M0 : z_Mem} {a : Nat} {p1 : Int32} {p2 : Option Nat} {M : z_Mem} {Post : z_Mem → Prop} (I : y_CI n c s M0 M) (ha : a = n + 1) (hp : ∃ q, p2 = some q) (k : ∀ M1, y_CI n c s M0 M1 → Post M1) : P_X5_putToClient a p1 p2 M Post := by
  have T0 : (0 : Int32).toInt = 0 := rfl; have T1 : (1 : Int32).toInt = 1 := rfl; have T4 : (4 : Int32).toInt = 4 := rfl; have T10 : (10 : Int32).toInt = 10 := rfl; have T30 : (30 : Int32).toInt = 30 := rfl; have T200 : (200 : Int32).toInt = 200 := rfl; have T400 : (400 : Int32).toInt = 400 := rfl
  subst ha; obtain ⟨q, rfl⟩ := hp
  refine And.intro (fun c1 => ?_) (fun c1 => ?_)
  · refine z_nn_of rfl ?_
    intro M_3 e_M_3
    have I_M_3 := r_sfi I e_M_3 (by decide +kernel)
    refine z_nn_of (s_640_1 I.1) ?_
    refine t_X3_letsToClient I_M_3 (by omega) (fun x_4 M_4 I_M_4 => ?_)
    refine And.intro (fun c2 => ?_) (fun c2 => ?_)
    · exact k _ (r_w I_M_4 (by omega) (by omega))
    · refine z_nn_of (s_643_1 I_M_4.1) ?_
      refine t_X10_appendC I_M_4 ⟨_, rfl⟩ (fun M_10 I_M_10 => ?_)
      exact k _ (r_w I_M_10 (by omega) (by omega))
  · refine z_nn_of rfl ?_
    intro M_3 e_M_3
    have I_M_3 := r_sfi I e_M_3 (by decide +kernel)
    refine z_nn_of (s_641_1 I.1) ?_
    refine t_X3_letsToClient I_M_3 (by omega) (fun x_4 M_4 I_M_4 => ?_)
    refine And.intro (fun c3 => ?_) (fun c3 => ?_)
    · exact k _ (r_w I_M_4 (by omega) (by omega))
    · refine z_nn_of (s_643_1 I_M_4.1) ?_
      refine t_X10_appendC I_M_4 ⟨_, rfl⟩ (fun M_10 I_M_10 => ?_)
      exact k _ (r_w I_M_10 (by omega) (by omega))
theorem t_X8_useTicket {n c s : Nat} {M0 : z_Mem} {a : Nat} {p1 : Int32} {M : z_Mem} {Post : Int32 → z_Mem → Prop} (I : y_CI n c s M0 M) (ha : a = n + 28) (k : ∀ r M1, y_CI n c s M0 M1 → Post r M1) : P_X8_useTicket a p1 M Post := by
  have T0 : (0 : Int32).toInt = 0 := rfl; have T1 : (1 : Int32).toInt = 1 := rfl; have T4 : (4 : Int32).toInt = 4 := rfl; have T10 : (10 : Int32).toInt = 10 := rfl; have T30 : (30 : Int32).toInt = 30 := rfl; have T200 : (200 : Int32).toInt = 200 := rfl; have T400 : (400 : Int32).toInt = 400 := rfl
  subst ha
  refine And.intro (fun c1 => ?_) (fun c1 => ?_)
  · exact k _ _ (r_w I (by omega) (by omega))
  · refine And.intro (fun c2 => ?_) (fun c2 => ?_)
    · exact k _ _ (r_w I (by omega) (by omega))
    · refine z_nn_of (s_1029_28 I.1) ?_
      refine And.intro (vp_of (L := 10) (s_l29 I.1) (by (first | omega | (simp only [Int32.not_lt, Int32.not_le, Int32.lt_iff_toInt_lt, Int32.le_iff_toInt_le] at *; omega))) (by (first | omega | (simp only [Int32.not_lt, Int32.not_le, Int32.lt_iff_toInt_lt, Int32.le_iff_toInt_le] at *; omega)))) ?_
      refine And.intro (fun c3 => ?_) (fun c3 => ?_)
      · refine z_nn_of (s_1029_28 I.1) ?_
        refine And.intro (vp_of (L := 10) (s_l29 I.1) (by (first | omega | (simp only [Int32.not_lt, Int32.not_le, Int32.lt_iff_toInt_lt, Int32.le_iff_toInt_le] at *; omega))) (by (first | omega | (simp only [Int32.not_lt, Int32.not_le, Int32.lt_iff_toInt_lt, Int32.le_iff_toInt_le] at *; omega)))) ?_
        intro M_10 e_M_10
        have I_M_10 := r_sai I e_M_10 (by omega)
        exact k _ _ (r_w I_M_10 (by omega) (by omega))
      · exact k _ _ (r_w I (by omega) (by omega))
theorem t_X8_hearHello {n c s : Nat} {M0 : z_Mem} {a : Nat} {p1 : Option Nat} {M : z_Mem} {Post : z_Mem → Prop} (I : y_CI n (c + 1) (s + 8) M0 M) (ha : a = n + 28) (hp : ∃ q, p1 = some q) (k : ∀ M1, y_CI n c s M0 M1 → Post M1) : P_X8_hearHello a p1 M Post := by
  have T0 : (0 : Int32).toInt = 0 := rfl; have T1 : (1 : Int32).toInt = 1 := rfl; have T4 : (4 : Int32).toInt = 4 := rfl; have T10 : (10 : Int32).toInt = 10 := rfl; have T30 : (30 : Int32).toInt = 30 := rfl; have T200 : (200 : Int32).toInt = 200 := rfl; have T400 : (400 : Int32).toInt = 400 := rfl
  subst ha; obtain ⟨q, rfl⟩ := hp
  refine And.intro (fun c1 => ?_) (fun c1 => ?_)
  · refine And.intro (r_room (w := 8) I) ?_
    intro M_2w1 e_M_2w1
    have I_M_2w1 := r_new (w := 8) I e_M_2w1
    intro M_1w2 e_M_1w2
    have I_M_1w2 := r_sfi I_M_2w1 e_M_1w2 (by decide +kernel)
    intro M_2w2 e_M_2w2
    have I_M_2w2 := r_sfi I_M_1w2 e_M_2w2 (by decide +kernel)
    intro M_5w1 e_M_5w1
    have I_M_5w1 := r_sfi I_M_2w2 e_M_5w1 (by decide +kernel)
    refine z_nn_of rfl ?_
    refine z_nn_of (s_1024_28 I_M_5w1.1) ?_
    refine t_X5_putToClient I_M_5w1 rfl ⟨_, rfl⟩ (fun M_9w1 I_M_9w1 => ?_)
    exact k _ (r_w I_M_9w1 (by omega) (by omega))
  · refine And.intro (fun c2 => ?_) (fun c2 => ?_)
    · intro M_11w3 e_M_11w3
      have I_M_11w3 := r_sfi I e_M_11w3 (by decide +kernel)
      refine z_nn_of rfl ?_
      refine t_X8_useTicket I_M_11w3 rfl (fun x_14w3 M_14w3 I_M_14w3 => ?_)
      intro M_15w3 e_M_15w3
      have I_M_15w3 := r_sfi I_M_14w3 e_M_15w3 (by decide +kernel)
      refine And.intro (r_room (w := 8) I_M_15w3) ?_
      intro M_2w4 e_M_2w4
      have I_M_2w4 := r_new (w := 8) I_M_15w3 e_M_2w4
      intro M_1w5 e_M_1w5
      have I_M_1w5 := r_sfi I_M_2w4 e_M_1w5 (by decide +kernel)
      intro M_2w5 e_M_2w5
      have I_M_2w5 := r_sfi I_M_1w5 e_M_2w5 (by decide +kernel)
      intro M_5w4 e_M_5w4
      have I_M_5w4 := r_sfi I_M_2w5 e_M_5w4 (by decide +kernel)
      refine z_nn_of rfl ?_
      refine z_nn_of (s_1024_28 I_M_5w4.1) ?_
      refine t_X5_putToClient I_M_5w4 rfl ⟨_, rfl⟩ (fun M_9w4 I_M_9w4 => ?_)
      exact k _ (r_w I_M_9w4 (by omega) (by omega))
    · refine z_nn_of rfl ?_
      refine And.intro (fun c3 => ?_) (fun c3 => ?_)
      · refine And.intro (r_room (w := 8) I) ?_
        intro M_26 e_M_26
        have I_M_26 := r_new (w := 8) I e_M_26
        intro M_1w6 e_M_1w6
        have I_M_1w6 := r_sfi I_M_26 e_M_1w6 (by decide +kernel)
        intro M_2w6 e_M_2w6
        have I_M_2w6 := r_sfi I_M_1w6 e_M_2w6 (by decide +kernel)
        refine z_nn_of (s_1024_28 I.1) ?_
        refine t_X5_putToClient I_M_2w6 rfl ⟨_, rfl⟩ (fun M_28 I_M_28 => ?_)
        exact k _ (r_w I_M_28 (by omega) (by omega))
      · intro M_11w7 e_M_11w7
        have I_M_11w7 := r_sfi I e_M_11w7 (by decide +kernel)
        refine z_nn_of rfl ?_
        refine t_X8_useTicket I_M_11w7 rfl (fun x_14w7 M_14w7 I_M_14w7 => ?_)
        intro M_15w7 e_M_15w7
        have I_M_15w7 := r_sfi I_M_14w7 e_M_15w7 (by decide +kernel)
        refine And.intro (r_room (w := 8) I_M_15w7) ?_
        intro M_2w8 e_M_2w8
        have I_M_2w8 := r_new (w := 8) I_M_15w7 e_M_2w8
        intro M_1w9 e_M_1w9
        have I_M_1w9 := r_sfi I_M_2w8 e_M_1w9 (by decide +kernel)
        intro M_2w9 e_M_2w9
        have I_M_2w9 := r_sfi I_M_1w9 e_M_2w9 (by decide +kernel)
        intro M_5w8 e_M_5w8
        have I_M_5w8 := r_sfi I_M_2w9 e_M_5w8 (by decide +kernel)
        refine z_nn_of rfl ?_
        refine z_nn_of (s_1024_28 I_M_5w8.1) ?_
        refine t_X5_putToClient I_M_5w8 rfl ⟨_, rfl⟩ (fun M_9w8 I_M_9w8 => ?_)
        exact k _ (r_w I_M_9w8 (by omega) (by omega))
theorem t_X1_sayHello {n c s : Nat} {M0 : z_Mem} {a : Nat} {M : z_Mem} {Post : z_Mem → Prop} (I : y_CI n (c + 1) (s + 8) M0 M) (ha : a = n + 31) (k : ∀ M1, y_CI n c s M0 M1 → Post M1) : P_X1_sayHello a M Post := by
  have T0 : (0 : Int32).toInt = 0 := rfl; have T1 : (1 : Int32).toInt = 1 := rfl; have T4 : (4 : Int32).toInt = 4 := rfl; have T10 : (10 : Int32).toInt = 10 := rfl; have T30 : (30 : Int32).toInt = 30 := rfl; have T200 : (200 : Int32).toInt = 200 := rfl; have T400 : (400 : Int32).toInt = 400 := rfl
  subst ha
  intro M_2 e_M_2
  have I_M_2 := r_sfi I e_M_2 (by decide +kernel)
  refine z_nn_of (s_128_31 I_M_2.1) ?_
  intro M_6 e_M_6
  have I_M_6 := r_sfi I_M_2 e_M_6 (by decide +kernel)
  refine And.intro (r_room (w := 8) I_M_6) ?_
  intro M_8 e_M_8
  have I_M_8 := r_new (w := 8) I_M_6 e_M_8
  intro M_1w1 e_M_1w1
  have I_M_1w1 := r_sfi I_M_8 e_M_1w1 (by decide +kernel)
  intro M_2w1 e_M_2w1
  have I_M_2w1 := r_sfi I_M_1w1 e_M_2w1 (by decide +kernel)
  intro M_11 e_M_11
  have I_M_11 := r_sfi I_M_2w1 e_M_11 (by decide +kernel)
  intro M_13 e_M_13
  have I_M_13 := r_sfi I_M_11 e_M_13 (by decide +kernel)
  refine z_nn_of (s_128_31 I_M_13.1) ?_
  refine t_X5_putToServer I_M_13 rfl ⟨_, rfl⟩ (fun M_15 I_M_15 => ?_)
  exact k _ (r_w I_M_15 (by omega) (by omega))
