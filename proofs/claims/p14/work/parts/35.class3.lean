/-! ===== THE CLASS: the server hears ===== -/
theorem t_X8_readBytes {n c s : Nat} {M0 : z_Mem} {a : Nat} {p1 : Option Nat} {p2 : Int32} {M : z_Mem} {Post : Int32 → z_Mem → Prop} (I : y_CI n (c + 5) (s + 26) M0 M) (ha : a = n + 28) (hp : ∃ q, p1 = some q) (k : ∀ r M1, y_CI n c s M0 M1 → Post r M1) : P_X8_readBytes a p1 p2 M Post := by
  have T0 : (0 : Int32).toInt = 0 := rfl; have T1 : (1 : Int32).toInt = 1 := rfl; have T4 : (4 : Int32).toInt = 4 := rfl; have T10 : (10 : Int32).toInt = 10 := rfl; have T30 : (30 : Int32).toInt = 30 := rfl; have T200 : (200 : Int32).toInt = 200 := rfl; have T400 : (400 : Int32).toInt = 400 := rfl
  subst ha; obtain ⟨q, rfl⟩ := hp
  refine z_nn_of rfl ?_
  intro x_4 e_x_4
  have t_x_4 : 0 ≤ x_4.toInt := by rw [e_x_4]; exact i_max0
  intro M_6 e_M_6
  have I_M_6 := r_sfi I e_M_6 (by decide +kernel)
  refine And.intro (fun c1 => ?_) (fun c1 => ?_)
  · exact k _ _ (r_w I_M_6 (by omega) (by omega))
  · refine t_X8_acknowledge I_M_6 (fun M_8 I_M_8 => ?_)
    exact k _ _ (r_w I_M_8 (by omega) (by omega))
theorem t_X8_takesKey {n c s : Nat} {M0 : z_Mem} {a : Nat} {p1 : Int32} {M : z_Mem} {Post : Int32 → z_Mem → Prop} (I : y_CI n c s M0 M) (ha : a = n + 28) (k : ∀ r M1, y_CI n c s M0 M1 → Post r M1) : P_X8_takesKey a p1 M Post := by
  have T0 : (0 : Int32).toInt = 0 := rfl; have T1 : (1 : Int32).toInt = 1 := rfl; have T4 : (4 : Int32).toInt = 4 := rfl; have T10 : (10 : Int32).toInt = 10 := rfl; have T30 : (30 : Int32).toInt = 30 := rfl; have T200 : (200 : Int32).toInt = 200 := rfl; have T400 : (400 : Int32).toInt = 400 := rfl
  subst ha
  refine And.intro (fun c1 => ?_) (fun c1 => ?_)
  · refine And.intro (fun c2 => ?_) (fun c2 => ?_)
    · exact k _ _ (r_w I (by omega) (by omega))
    · refine And.intro (fun c3 => ?_) (fun c3 => ?_)
      · refine z_nn_of (s_1024_28 I.1) ?_
        refine And.intro (fun c4 => ?_) (fun c4 => ?_)
        · exact k _ _ (r_w I (by omega) (by omega))
        · exact k _ _ (r_w I (by omega) (by omega))
      · exact k _ _ (r_w I (by omega) (by omega))
  · intro M_13 e_M_13
    have I_M_13 := r_sfi I e_M_13 (by decide +kernel)
    refine z_nn_of (s_1024_28 I_M_13.1) ?_
    intro M_17 e_M_17
    have I_M_17 := r_sfi I_M_13 e_M_17 (by decide +kernel)
    intro M_18 e_M_18
    have I_M_18 := r_sfi I_M_17 e_M_18 (by decide +kernel)
    refine And.intro (fun c5 => ?_) (fun c5 => ?_)
    · exact k _ _ (r_w I_M_18 (by omega) (by omega))
    · refine And.intro (fun c6 => ?_) (fun c6 => ?_)
      · refine z_nn_of (s_1024_28 I_M_18.1) ?_
        refine And.intro (fun c7 => ?_) (fun c7 => ?_)
        · exact k _ _ (r_w I_M_18 (by omega) (by omega))
        · exact k _ _ (r_w I_M_18 (by omega) (by omega))
      · exact k _ _ (r_w I_M_18 (by omega) (by omega))
theorem t_X8_hearData {n c s : Nat} {M0 : z_Mem} {a : Nat} {p1 : Option Nat} {M : z_Mem} {Post : z_Mem → Prop} (I : y_CI n (c + 5) (s + 26) M0 M) (ha : a = n + 28) (hp : ∃ q, p1 = some q) (k : ∀ M1, y_CI n c s M0 M1 → Post M1) : P_X8_hearData a p1 M Post := by
  have T0 : (0 : Int32).toInt = 0 := rfl; have T1 : (1 : Int32).toInt = 1 := rfl; have T4 : (4 : Int32).toInt = 4 := rfl; have T10 : (10 : Int32).toInt = 10 := rfl; have T30 : (30 : Int32).toInt = 30 := rfl; have T200 : (200 : Int32).toInt = 200 := rfl; have T400 : (400 : Int32).toInt = 400 := rfl
  subst ha; obtain ⟨q, rfl⟩ := hp
  refine z_nn_of rfl ?_
  refine And.intro (fun c1 => ?_) (fun c1 => ?_)
  · refine z_nn_of rfl ?_
    intro x_29w2 e_x_29w2
    refine And.intro (fun c2 => ?_) (fun c2 => ?_)
    · refine t_X8_takesKey I rfl (fun x_32w2 M_32w2 I_M_32w2 => ?_)
      refine And.intro (fun c3 => ?_) (fun c3 => ?_)
      · exact k _ (r_w I_M_32w2 (by omega) (by omega))
      · refine And.intro (fun c4 => ?_) (fun c4 => ?_)
        · exact k _ (r_w I_M_32w2 (by omega) (by omega))
        · refine And.intro (fun c5 => ?_) (fun c5 => ?_)
          · intro M_36w2 e_M_36w2
            have I_M_36w2 := r_sfi I_M_32w2 e_M_36w2 (by decide +kernel)
            refine And.intro (fun c6 => ?_) (fun c6 => ?_)
            · refine z_nn_of rfl ?_
              refine And.intro (fun c7 => ?_) (fun c7 => ?_)
              · refine And.intro (fun c8 => ?_) (fun c8 => ?_)
                · refine And.intro (fun c9 => ?_) (fun c9 => ?_)
                  · refine z_nn_of (s_1033_28 I_M_36w2.1) ?_
                    refine And.intro (vp_of (L := 400) (s_l30 I_M_36w2.1) (by (first | omega | (simp only [Int32.not_lt, Int32.not_le, Int32.lt_iff_toInt_lt, Int32.le_iff_toInt_le] at *; omega))) (by (first | omega | (simp only [Int32.not_lt, Int32.not_le, Int32.lt_iff_toInt_lt, Int32.le_iff_toInt_le] at *; omega)))) ?_
                    intro M_10w4 e_M_10w4
                    have I_M_10w4 := r_sai I_M_36w2 e_M_10w4 (by omega)
                    intro M_12w4 e_M_12w4
                    have I_M_12w4 := r_sfi I_M_10w4 e_M_12w4 (by decide +kernel)
                    intro M_14w4 e_M_14w4
                    have I_M_14w4 := r_sfi I_M_12w4 e_M_14w4 (by decide +kernel)
                    refine z_nn_of rfl ?_
                    refine And.intro (fun c10 => ?_) (fun c10 => ?_)
                    · refine And.intro (fun c11 => ?_) (fun c11 => ?_)
                      · refine z_nn_of (s_1024_28 I_M_14w4.1) ?_
                        intro M_5w5 e_M_5w5
                        have I_M_5w5 := r_sfi I_M_14w4 e_M_5w5 (by decide +kernel)
                        exact k _ (r_w I_M_5w5 (by omega) (by omega))
                      · refine t_X8_acknowledge I_M_14w4 (fun M_6w5 I_M_6w5 => ?_)
                        exact k _ (r_w I_M_6w5 (by omega) (by omega))
                    · intro M_19w4 e_M_19w4
                      have I_M_19w4 := r_sfi I_M_14w4 e_M_19w4 (by decide +kernel)
                      refine And.intro (fun c12 => ?_) (fun c12 => ?_)
                      · refine z_nn_of (s_1024_28 I_M_19w4.1) ?_
                        intro M_5w6 e_M_5w6
                        have I_M_5w6 := r_sfi I_M_19w4 e_M_5w6 (by decide +kernel)
                        exact k _ (r_w I_M_5w6 (by omega) (by omega))
                      · refine t_X8_acknowledge I_M_19w4 (fun M_6w6 I_M_6w6 => ?_)
                        exact k _ (r_w I_M_6w6 (by omega) (by omega))
                  · refine z_nn_of (s_1033_28 I_M_36w2.1) ?_
                    refine And.intro (vp_of (L := 400) (s_l30 I_M_36w2.1) (by (first | omega | (simp only [Int32.not_lt, Int32.not_le, Int32.lt_iff_toInt_lt, Int32.le_iff_toInt_le] at *; omega))) (by (first | omega | (simp only [Int32.not_lt, Int32.not_le, Int32.lt_iff_toInt_lt, Int32.le_iff_toInt_le] at *; omega)))) ?_
                    intro M_10w8 e_M_10w8
                    have I_M_10w8 := r_sai I_M_36w2 e_M_10w8 (by omega)
                    intro M_12w8 e_M_12w8
                    have I_M_12w8 := r_sfi I_M_10w8 e_M_12w8 (by decide +kernel)
                    intro M_14w8 e_M_14w8
                    have I_M_14w8 := r_sfi I_M_12w8 e_M_14w8 (by decide +kernel)
                    refine z_nn_of rfl ?_
                    refine And.intro (fun c13 => ?_) (fun c13 => ?_)
                    · refine And.intro (fun c14 => ?_) (fun c14 => ?_)
                      · refine z_nn_of (s_1024_28 I_M_14w8.1) ?_
                        intro M_5w9 e_M_5w9
                        have I_M_5w9 := r_sfi I_M_14w8 e_M_5w9 (by decide +kernel)
                        exact k _ (r_w I_M_5w9 (by omega) (by omega))
                      · refine t_X8_acknowledge I_M_14w8 (fun M_6w9 I_M_6w9 => ?_)
                        exact k _ (r_w I_M_6w9 (by omega) (by omega))
                    · intro M_19w8 e_M_19w8
                      have I_M_19w8 := r_sfi I_M_14w8 e_M_19w8 (by decide +kernel)
                      refine And.intro (fun c15 => ?_) (fun c15 => ?_)
                      · refine z_nn_of (s_1024_28 I_M_19w8.1) ?_
                        intro M_5w10 e_M_5w10
                        have I_M_5w10 := r_sfi I_M_19w8 e_M_5w10 (by decide +kernel)
                        exact k _ (r_w I_M_5w10 (by omega) (by omega))
                      · refine t_X8_acknowledge I_M_19w8 (fun M_6w10 I_M_6w10 => ?_)
                        exact k _ (r_w I_M_6w10 (by omega) (by omega))
                · refine z_nn_of (s_1033_28 I_M_36w2.1) ?_
                  refine And.intro (vp_of (L := 400) (s_l30 I_M_36w2.1) (by (first | omega | (simp only [Int32.not_lt, Int32.not_le, Int32.lt_iff_toInt_lt, Int32.le_iff_toInt_le] at *; omega))) (by (first | omega | (simp only [Int32.not_lt, Int32.not_le, Int32.lt_iff_toInt_lt, Int32.le_iff_toInt_le] at *; omega)))) ?_
                  intro M_10w12 e_M_10w12
                  have I_M_10w12 := r_sai I_M_36w2 e_M_10w12 (by omega)
                  intro M_12w12 e_M_12w12
                  have I_M_12w12 := r_sfi I_M_10w12 e_M_12w12 (by decide +kernel)
                  intro M_14w12 e_M_14w12
                  have I_M_14w12 := r_sfi I_M_12w12 e_M_14w12 (by decide +kernel)
                  refine z_nn_of rfl ?_
                  refine And.intro (fun c16 => ?_) (fun c16 => ?_)
                  · refine And.intro (fun c17 => ?_) (fun c17 => ?_)
                    · refine z_nn_of (s_1024_28 I_M_14w12.1) ?_
                      intro M_5w13 e_M_5w13
                      have I_M_5w13 := r_sfi I_M_14w12 e_M_5w13 (by decide +kernel)
                      exact k _ (r_w I_M_5w13 (by omega) (by omega))
                    · refine t_X8_acknowledge I_M_14w12 (fun M_6w13 I_M_6w13 => ?_)
                      exact k _ (r_w I_M_6w13 (by omega) (by omega))
                  · intro M_19w12 e_M_19w12
                    have I_M_19w12 := r_sfi I_M_14w12 e_M_19w12 (by decide +kernel)
                    refine And.intro (fun c18 => ?_) (fun c18 => ?_)
                    · refine z_nn_of (s_1024_28 I_M_19w12.1) ?_
                      intro M_5w14 e_M_5w14
                      have I_M_5w14 := r_sfi I_M_19w12 e_M_5w14 (by decide +kernel)
                      exact k _ (r_w I_M_5w14 (by omega) (by omega))
                    · refine t_X8_acknowledge I_M_19w12 (fun M_6w14 I_M_6w14 => ?_)
                      exact k _ (r_w I_M_6w14 (by omega) (by omega))
              · refine z_nn_of (s_1033_28 I_M_36w2.1) ?_
                refine And.intro (vp_of (L := 400) (s_l30 I_M_36w2.1) (by (first | omega | (simp only [Int32.not_lt, Int32.not_le, Int32.lt_iff_toInt_lt, Int32.le_iff_toInt_le] at *; omega))) (by (first | omega | (simp only [Int32.not_lt, Int32.not_le, Int32.lt_iff_toInt_lt, Int32.le_iff_toInt_le] at *; omega)))) ?_
                intro M_10w16 e_M_10w16
                have I_M_10w16 := r_sai I_M_36w2 e_M_10w16 (by omega)
                intro M_12w16 e_M_12w16
                have I_M_12w16 := r_sfi I_M_10w16 e_M_12w16 (by decide +kernel)
                intro M_14w16 e_M_14w16
                have I_M_14w16 := r_sfi I_M_12w16 e_M_14w16 (by decide +kernel)
                refine z_nn_of rfl ?_
                refine And.intro (fun c19 => ?_) (fun c19 => ?_)
                · refine And.intro (fun c20 => ?_) (fun c20 => ?_)
                  · refine z_nn_of (s_1024_28 I_M_14w16.1) ?_
                    intro M_5w17 e_M_5w17
                    have I_M_5w17 := r_sfi I_M_14w16 e_M_5w17 (by decide +kernel)
                    exact k _ (r_w I_M_5w17 (by omega) (by omega))
                  · refine t_X8_acknowledge I_M_14w16 (fun M_6w17 I_M_6w17 => ?_)
                    exact k _ (r_w I_M_6w17 (by omega) (by omega))
                · intro M_19w16 e_M_19w16
                  have I_M_19w16 := r_sfi I_M_14w16 e_M_19w16 (by decide +kernel)
                  refine And.intro (fun c21 => ?_) (fun c21 => ?_)
                  · refine z_nn_of (s_1024_28 I_M_19w16.1) ?_
                    intro M_5w18 e_M_5w18
                    have I_M_5w18 := r_sfi I_M_19w16 e_M_5w18 (by decide +kernel)
                    exact k _ (r_w I_M_5w18 (by omega) (by omega))
                  · refine t_X8_acknowledge I_M_19w16 (fun M_6w18 I_M_6w18 => ?_)
                    exact k _ (r_w I_M_6w18 (by omega) (by omega))
            · refine And.intro (fun c22 => ?_) (fun c22 => ?_)
              · refine z_nn_of rfl ?_
                refine And.intro (fun c23 => ?_) (fun c23 => ?_)
                · refine And.intro (fun c24 => ?_) (fun c24 => ?_)
                  · refine And.intro (fun c25 => ?_) (fun c25 => ?_)
                    · refine z_nn_of (s_1033_28 I_M_36w2.1) ?_
                      refine And.intro (vp_of (L := 400) (s_l30 I_M_36w2.1) (by (first | omega | (simp only [Int32.not_lt, Int32.not_le, Int32.lt_iff_toInt_lt, Int32.le_iff_toInt_le] at *; omega))) (by (first | omega | (simp only [Int32.not_lt, Int32.not_le, Int32.lt_iff_toInt_lt, Int32.le_iff_toInt_le] at *; omega)))) ?_
                      intro M_10w20 e_M_10w20
                      have I_M_10w20 := r_sai I_M_36w2 e_M_10w20 (by omega)
                      intro M_12w20 e_M_12w20
                      have I_M_12w20 := r_sfi I_M_10w20 e_M_12w20 (by decide +kernel)
                      intro M_14w20 e_M_14w20
                      have I_M_14w20 := r_sfi I_M_12w20 e_M_14w20 (by decide +kernel)
                      refine z_nn_of rfl ?_
                      refine And.intro (fun c26 => ?_) (fun c26 => ?_)
                      · refine And.intro (fun c27 => ?_) (fun c27 => ?_)
                        · refine z_nn_of (s_1024_28 I_M_14w20.1) ?_
                          intro M_5w21 e_M_5w21
                          have I_M_5w21 := r_sfi I_M_14w20 e_M_5w21 (by decide +kernel)
                          exact k _ (r_w I_M_5w21 (by omega) (by omega))
                        · refine t_X8_acknowledge I_M_14w20 (fun M_6w21 I_M_6w21 => ?_)
                          exact k _ (r_w I_M_6w21 (by omega) (by omega))
                      · intro M_19w20 e_M_19w20
                        have I_M_19w20 := r_sfi I_M_14w20 e_M_19w20 (by decide +kernel)
                        refine And.intro (fun c28 => ?_) (fun c28 => ?_)
                        · refine z_nn_of (s_1024_28 I_M_19w20.1) ?_
                          intro M_5w22 e_M_5w22
                          have I_M_5w22 := r_sfi I_M_19w20 e_M_5w22 (by decide +kernel)
                          exact k _ (r_w I_M_5w22 (by omega) (by omega))
                        · refine t_X8_acknowledge I_M_19w20 (fun M_6w22 I_M_6w22 => ?_)
                          exact k _ (r_w I_M_6w22 (by omega) (by omega))
                    · refine z_nn_of (s_1033_28 I_M_36w2.1) ?_
                      refine And.intro (vp_of (L := 400) (s_l30 I_M_36w2.1) (by (first | omega | (simp only [Int32.not_lt, Int32.not_le, Int32.lt_iff_toInt_lt, Int32.le_iff_toInt_le] at *; omega))) (by (first | omega | (simp only [Int32.not_lt, Int32.not_le, Int32.lt_iff_toInt_lt, Int32.le_iff_toInt_le] at *; omega)))) ?_
                      intro M_10w24 e_M_10w24
                      have I_M_10w24 := r_sai I_M_36w2 e_M_10w24 (by omega)
                      intro M_12w24 e_M_12w24
                      have I_M_12w24 := r_sfi I_M_10w24 e_M_12w24 (by decide +kernel)
                      intro M_14w24 e_M_14w24
                      have I_M_14w24 := r_sfi I_M_12w24 e_M_14w24 (by decide +kernel)
                      refine z_nn_of rfl ?_
                      refine And.intro (fun c29 => ?_) (fun c29 => ?_)
                      · refine And.intro (fun c30 => ?_) (fun c30 => ?_)
                        · refine z_nn_of (s_1024_28 I_M_14w24.1) ?_
                          intro M_5w25 e_M_5w25
                          have I_M_5w25 := r_sfi I_M_14w24 e_M_5w25 (by decide +kernel)
                          exact k _ (r_w I_M_5w25 (by omega) (by omega))
                        · refine t_X8_acknowledge I_M_14w24 (fun M_6w25 I_M_6w25 => ?_)
                          exact k _ (r_w I_M_6w25 (by omega) (by omega))
                      · intro M_19w24 e_M_19w24
                        have I_M_19w24 := r_sfi I_M_14w24 e_M_19w24 (by decide +kernel)
                        refine And.intro (fun c31 => ?_) (fun c31 => ?_)
                        · refine z_nn_of (s_1024_28 I_M_19w24.1) ?_
                          intro M_5w26 e_M_5w26
                          have I_M_5w26 := r_sfi I_M_19w24 e_M_5w26 (by decide +kernel)
                          exact k _ (r_w I_M_5w26 (by omega) (by omega))
                        · refine t_X8_acknowledge I_M_19w24 (fun M_6w26 I_M_6w26 => ?_)
                          exact k _ (r_w I_M_6w26 (by omega) (by omega))
                  · refine z_nn_of (s_1033_28 I_M_36w2.1) ?_
                    refine And.intro (vp_of (L := 400) (s_l30 I_M_36w2.1) (by (first | omega | (simp only [Int32.not_lt, Int32.not_le, Int32.lt_iff_toInt_lt, Int32.le_iff_toInt_le] at *; omega))) (by (first | omega | (simp only [Int32.not_lt, Int32.not_le, Int32.lt_iff_toInt_lt, Int32.le_iff_toInt_le] at *; omega)))) ?_
                    intro M_10w28 e_M_10w28
                    have I_M_10w28 := r_sai I_M_36w2 e_M_10w28 (by omega)
                    intro M_12w28 e_M_12w28
                    have I_M_12w28 := r_sfi I_M_10w28 e_M_12w28 (by decide +kernel)
                    intro M_14w28 e_M_14w28
                    have I_M_14w28 := r_sfi I_M_12w28 e_M_14w28 (by decide +kernel)
                    refine z_nn_of rfl ?_
                    refine And.intro (fun c32 => ?_) (fun c32 => ?_)
                    · refine And.intro (fun c33 => ?_) (fun c33 => ?_)
                      · refine z_nn_of (s_1024_28 I_M_14w28.1) ?_
                        intro M_5w29 e_M_5w29
                        have I_M_5w29 := r_sfi I_M_14w28 e_M_5w29 (by decide +kernel)
                        exact k _ (r_w I_M_5w29 (by omega) (by omega))
                      · refine t_X8_acknowledge I_M_14w28 (fun M_6w29 I_M_6w29 => ?_)
                        exact k _ (r_w I_M_6w29 (by omega) (by omega))
                    · intro M_19w28 e_M_19w28
                      have I_M_19w28 := r_sfi I_M_14w28 e_M_19w28 (by decide +kernel)
                      refine And.intro (fun c34 => ?_) (fun c34 => ?_)
                      · refine z_nn_of (s_1024_28 I_M_19w28.1) ?_
                        intro M_5w30 e_M_5w30
                        have I_M_5w30 := r_sfi I_M_19w28 e_M_5w30 (by decide +kernel)
                        exact k _ (r_w I_M_5w30 (by omega) (by omega))
                      · refine t_X8_acknowledge I_M_19w28 (fun M_6w30 I_M_6w30 => ?_)
                        exact k _ (r_w I_M_6w30 (by omega) (by omega))
                · refine z_nn_of (s_1033_28 I_M_36w2.1) ?_
                  refine And.intro (vp_of (L := 400) (s_l30 I_M_36w2.1) (by (first | omega | (simp only [Int32.not_lt, Int32.not_le, Int32.lt_iff_toInt_lt, Int32.le_iff_toInt_le] at *; omega))) (by (first | omega | (simp only [Int32.not_lt, Int32.not_le, Int32.lt_iff_toInt_lt, Int32.le_iff_toInt_le] at *; omega)))) ?_
                  intro M_10w32 e_M_10w32
                  have I_M_10w32 := r_sai I_M_36w2 e_M_10w32 (by omega)
                  intro M_12w32 e_M_12w32
                  have I_M_12w32 := r_sfi I_M_10w32 e_M_12w32 (by decide +kernel)
                  intro M_14w32 e_M_14w32
                  have I_M_14w32 := r_sfi I_M_12w32 e_M_14w32 (by decide +kernel)
                  refine z_nn_of rfl ?_
                  refine And.intro (fun c35 => ?_) (fun c35 => ?_)
                  · refine And.intro (fun c36 => ?_) (fun c36 => ?_)
                    · refine z_nn_of (s_1024_28 I_M_14w32.1) ?_
                      intro M_5w33 e_M_5w33
                      have I_M_5w33 := r_sfi I_M_14w32 e_M_5w33 (by decide +kernel)
                      exact k _ (r_w I_M_5w33 (by omega) (by omega))
                    · refine t_X8_acknowledge I_M_14w32 (fun M_6w33 I_M_6w33 => ?_)
                      exact k _ (r_w I_M_6w33 (by omega) (by omega))
                  · intro M_19w32 e_M_19w32
                    have I_M_19w32 := r_sfi I_M_14w32 e_M_19w32 (by decide +kernel)
                    refine And.intro (fun c37 => ?_) (fun c37 => ?_)
                    · refine z_nn_of (s_1024_28 I_M_19w32.1) ?_
                      intro M_5w34 e_M_5w34
                      have I_M_5w34 := r_sfi I_M_19w32 e_M_5w34 (by decide +kernel)
                      exact k _ (r_w I_M_5w34 (by omega) (by omega))
                    · refine t_X8_acknowledge I_M_19w32 (fun M_6w34 I_M_6w34 => ?_)
                      exact k _ (r_w I_M_6w34 (by omega) (by omega))
              · refine z_nn_of (s_1025_28 I_M_36w2.1) ?_
                refine And.intro (vp_of (L := 4) (s_l11 I_M_36w2.1) (y_str I_M_36w2 _).1 (y_str I_M_36w2 _).2) ?_
                obtain ⟨st38, hs38, hx38⟩ := t_strAt (x := (z_fi M_36w2 771 q)) I_M_36w2.1 (y_str I_M_36w2 _).1 (y_str I_M_36w2 _).2
                refine z_nn_of hs38 ?_
                refine t_X9_arrive I_M_36w2 (by omega) (fun M_47w2 I_M_47w2 => ?_)
                refine z_nn_of rfl ?_
                refine And.intro (fun c39 => ?_) (fun c39 => ?_)
                · refine And.intro (fun c40 => ?_) (fun c40 => ?_)
                  · refine And.intro (fun c41 => ?_) (fun c41 => ?_)
                    · refine z_nn_of (s_1033_28 I_M_47w2.1) ?_
                      refine And.intro (vp_of (L := 400) (s_l30 I_M_47w2.1) (by (first | omega | (simp only [Int32.not_lt, Int32.not_le, Int32.lt_iff_toInt_lt, Int32.le_iff_toInt_le] at *; omega))) (by (first | omega | (simp only [Int32.not_lt, Int32.not_le, Int32.lt_iff_toInt_lt, Int32.le_iff_toInt_le] at *; omega)))) ?_
                      intro M_10w36 e_M_10w36
                      have I_M_10w36 := r_sai I_M_47w2 e_M_10w36 (by omega)
                      intro M_12w36 e_M_12w36
                      have I_M_12w36 := r_sfi I_M_10w36 e_M_12w36 (by decide +kernel)
                      intro M_14w36 e_M_14w36
                      have I_M_14w36 := r_sfi I_M_12w36 e_M_14w36 (by decide +kernel)
                      refine z_nn_of rfl ?_
                      refine And.intro (fun c42 => ?_) (fun c42 => ?_)
                      · refine And.intro (fun c43 => ?_) (fun c43 => ?_)
                        · refine z_nn_of (s_1024_28 I_M_14w36.1) ?_
                          intro M_5w37 e_M_5w37
                          have I_M_5w37 := r_sfi I_M_14w36 e_M_5w37 (by decide +kernel)
                          exact k _ (r_w I_M_5w37 (by omega) (by omega))
                        · refine t_X8_acknowledge I_M_14w36 (fun M_6w37 I_M_6w37 => ?_)
                          exact k _ (r_w I_M_6w37 (by omega) (by omega))
                      · intro M_19w36 e_M_19w36
                        have I_M_19w36 := r_sfi I_M_14w36 e_M_19w36 (by decide +kernel)
                        refine And.intro (fun c44 => ?_) (fun c44 => ?_)
                        · refine z_nn_of (s_1024_28 I_M_19w36.1) ?_
                          intro M_5w38 e_M_5w38
                          have I_M_5w38 := r_sfi I_M_19w36 e_M_5w38 (by decide +kernel)
                          exact k _ (r_w I_M_5w38 (by omega) (by omega))
                        · refine t_X8_acknowledge I_M_19w36 (fun M_6w38 I_M_6w38 => ?_)
                          exact k _ (r_w I_M_6w38 (by omega) (by omega))
                    · refine z_nn_of (s_1033_28 I_M_47w2.1) ?_
                      refine And.intro (vp_of (L := 400) (s_l30 I_M_47w2.1) (by (first | omega | (simp only [Int32.not_lt, Int32.not_le, Int32.lt_iff_toInt_lt, Int32.le_iff_toInt_le] at *; omega))) (by (first | omega | (simp only [Int32.not_lt, Int32.not_le, Int32.lt_iff_toInt_lt, Int32.le_iff_toInt_le] at *; omega)))) ?_
                      intro M_10w40 e_M_10w40
                      have I_M_10w40 := r_sai I_M_47w2 e_M_10w40 (by omega)
                      intro M_12w40 e_M_12w40
                      have I_M_12w40 := r_sfi I_M_10w40 e_M_12w40 (by decide +kernel)
                      intro M_14w40 e_M_14w40
                      have I_M_14w40 := r_sfi I_M_12w40 e_M_14w40 (by decide +kernel)
                      refine z_nn_of rfl ?_
                      refine And.intro (fun c45 => ?_) (fun c45 => ?_)
                      · refine And.intro (fun c46 => ?_) (fun c46 => ?_)
                        · refine z_nn_of (s_1024_28 I_M_14w40.1) ?_
                          intro M_5w41 e_M_5w41
                          have I_M_5w41 := r_sfi I_M_14w40 e_M_5w41 (by decide +kernel)
                          exact k _ (r_w I_M_5w41 (by omega) (by omega))
                        · refine t_X8_acknowledge I_M_14w40 (fun M_6w41 I_M_6w41 => ?_)
                          exact k _ (r_w I_M_6w41 (by omega) (by omega))
                      · intro M_19w40 e_M_19w40
                        have I_M_19w40 := r_sfi I_M_14w40 e_M_19w40 (by decide +kernel)
                        refine And.intro (fun c47 => ?_) (fun c47 => ?_)
                        · refine z_nn_of (s_1024_28 I_M_19w40.1) ?_
                          intro M_5w42 e_M_5w42
                          have I_M_5w42 := r_sfi I_M_19w40 e_M_5w42 (by decide +kernel)
                          exact k _ (r_w I_M_5w42 (by omega) (by omega))
                        · refine t_X8_acknowledge I_M_19w40 (fun M_6w42 I_M_6w42 => ?_)
                          exact k _ (r_w I_M_6w42 (by omega) (by omega))
                  · refine z_nn_of (s_1033_28 I_M_47w2.1) ?_
                    refine And.intro (vp_of (L := 400) (s_l30 I_M_47w2.1) (by (first | omega | (simp only [Int32.not_lt, Int32.not_le, Int32.lt_iff_toInt_lt, Int32.le_iff_toInt_le] at *; omega))) (by (first | omega | (simp only [Int32.not_lt, Int32.not_le, Int32.lt_iff_toInt_lt, Int32.le_iff_toInt_le] at *; omega)))) ?_
                    intro M_10w44 e_M_10w44
                    have I_M_10w44 := r_sai I_M_47w2 e_M_10w44 (by omega)
                    intro M_12w44 e_M_12w44
                    have I_M_12w44 := r_sfi I_M_10w44 e_M_12w44 (by decide +kernel)
                    intro M_14w44 e_M_14w44
                    have I_M_14w44 := r_sfi I_M_12w44 e_M_14w44 (by decide +kernel)
                    refine z_nn_of rfl ?_
                    refine And.intro (fun c48 => ?_) (fun c48 => ?_)
                    · refine And.intro (fun c49 => ?_) (fun c49 => ?_)
                      · refine z_nn_of (s_1024_28 I_M_14w44.1) ?_
                        intro M_5w45 e_M_5w45
                        have I_M_5w45 := r_sfi I_M_14w44 e_M_5w45 (by decide +kernel)
                        exact k _ (r_w I_M_5w45 (by omega) (by omega))
                      · refine t_X8_acknowledge I_M_14w44 (fun M_6w45 I_M_6w45 => ?_)
                        exact k _ (r_w I_M_6w45 (by omega) (by omega))
                    · intro M_19w44 e_M_19w44
                      have I_M_19w44 := r_sfi I_M_14w44 e_M_19w44 (by decide +kernel)
                      refine And.intro (fun c50 => ?_) (fun c50 => ?_)
                      · refine z_nn_of (s_1024_28 I_M_19w44.1) ?_
                        intro M_5w46 e_M_5w46
                        have I_M_5w46 := r_sfi I_M_19w44 e_M_5w46 (by decide +kernel)
                        exact k _ (r_w I_M_5w46 (by omega) (by omega))
                      · refine t_X8_acknowledge I_M_19w44 (fun M_6w46 I_M_6w46 => ?_)
                        exact k _ (r_w I_M_6w46 (by omega) (by omega))
                · refine z_nn_of (s_1033_28 I_M_47w2.1) ?_
                  refine And.intro (vp_of (L := 400) (s_l30 I_M_47w2.1) (by (first | omega | (simp only [Int32.not_lt, Int32.not_le, Int32.lt_iff_toInt_lt, Int32.le_iff_toInt_le] at *; omega))) (by (first | omega | (simp only [Int32.not_lt, Int32.not_le, Int32.lt_iff_toInt_lt, Int32.le_iff_toInt_le] at *; omega)))) ?_
                  intro M_10w48 e_M_10w48
                  have I_M_10w48 := r_sai I_M_47w2 e_M_10w48 (by omega)
                  intro M_12w48 e_M_12w48
                  have I_M_12w48 := r_sfi I_M_10w48 e_M_12w48 (by decide +kernel)
                  intro M_14w48 e_M_14w48
                  have I_M_14w48 := r_sfi I_M_12w48 e_M_14w48 (by decide +kernel)
                  refine z_nn_of rfl ?_
                  refine And.intro (fun c51 => ?_) (fun c51 => ?_)
                  · refine And.intro (fun c52 => ?_) (fun c52 => ?_)
                    · refine z_nn_of (s_1024_28 I_M_14w48.1) ?_
                      intro M_5w49 e_M_5w49
                      have I_M_5w49 := r_sfi I_M_14w48 e_M_5w49 (by decide +kernel)
                      exact k _ (r_w I_M_5w49 (by omega) (by omega))
                    · refine t_X8_acknowledge I_M_14w48 (fun M_6w49 I_M_6w49 => ?_)
                      exact k _ (r_w I_M_6w49 (by omega) (by omega))
                  · intro M_19w48 e_M_19w48
                    have I_M_19w48 := r_sfi I_M_14w48 e_M_19w48 (by decide +kernel)
                    refine And.intro (fun c53 => ?_) (fun c53 => ?_)
                    · refine z_nn_of (s_1024_28 I_M_19w48.1) ?_
                      intro M_5w50 e_M_5w50
                      have I_M_5w50 := r_sfi I_M_19w48 e_M_5w50 (by decide +kernel)
                      exact k _ (r_w I_M_5w50 (by omega) (by omega))
                    · refine t_X8_acknowledge I_M_19w48 (fun M_6w50 I_M_6w50 => ?_)
                      exact k _ (r_w I_M_6w50 (by omega) (by omega))
          · exact k _ (r_w I_M_32w2 (by omega) (by omega))
    · exact k _ (r_w I (by omega) (by omega))
  · refine And.intro (fun c54 => ?_) (fun c54 => ?_)
    · refine z_nn_of rfl ?_
      intro x_29w51 e_x_29w51
      refine And.intro (fun c55 => ?_) (fun c55 => ?_)
      · refine t_X8_takesKey I rfl (fun x_32w51 M_32w51 I_M_32w51 => ?_)
        refine And.intro (fun c56 => ?_) (fun c56 => ?_)
        · exact k _ (r_w I_M_32w51 (by omega) (by omega))
        · refine And.intro (fun c57 => ?_) (fun c57 => ?_)
          · exact k _ (r_w I_M_32w51 (by omega) (by omega))
          · refine And.intro (fun c58 => ?_) (fun c58 => ?_)
            · intro M_36w51 e_M_36w51
              have I_M_36w51 := r_sfi I_M_32w51 e_M_36w51 (by decide +kernel)
              refine And.intro (fun c59 => ?_) (fun c59 => ?_)
              · refine z_nn_of rfl ?_
                refine And.intro (fun c60 => ?_) (fun c60 => ?_)
                · refine And.intro (fun c61 => ?_) (fun c61 => ?_)
                  · refine And.intro (fun c62 => ?_) (fun c62 => ?_)
                    · refine z_nn_of (s_1033_28 I_M_36w51.1) ?_
                      refine And.intro (vp_of (L := 400) (s_l30 I_M_36w51.1) (by (first | omega | (simp only [Int32.not_lt, Int32.not_le, Int32.lt_iff_toInt_lt, Int32.le_iff_toInt_le] at *; omega))) (by (first | omega | (simp only [Int32.not_lt, Int32.not_le, Int32.lt_iff_toInt_lt, Int32.le_iff_toInt_le] at *; omega)))) ?_
                      intro M_10w53 e_M_10w53
                      have I_M_10w53 := r_sai I_M_36w51 e_M_10w53 (by omega)
                      intro M_12w53 e_M_12w53
                      have I_M_12w53 := r_sfi I_M_10w53 e_M_12w53 (by decide +kernel)
                      intro M_14w53 e_M_14w53
                      have I_M_14w53 := r_sfi I_M_12w53 e_M_14w53 (by decide +kernel)
                      refine z_nn_of rfl ?_
                      refine And.intro (fun c63 => ?_) (fun c63 => ?_)
                      · refine And.intro (fun c64 => ?_) (fun c64 => ?_)
                        · refine z_nn_of (s_1024_28 I_M_14w53.1) ?_
                          intro M_5w54 e_M_5w54
                          have I_M_5w54 := r_sfi I_M_14w53 e_M_5w54 (by decide +kernel)
                          exact k _ (r_w I_M_5w54 (by omega) (by omega))
                        · refine t_X8_acknowledge I_M_14w53 (fun M_6w54 I_M_6w54 => ?_)
                          exact k _ (r_w I_M_6w54 (by omega) (by omega))
                      · intro M_19w53 e_M_19w53
                        have I_M_19w53 := r_sfi I_M_14w53 e_M_19w53 (by decide +kernel)
                        refine And.intro (fun c65 => ?_) (fun c65 => ?_)
                        · refine z_nn_of (s_1024_28 I_M_19w53.1) ?_
                          intro M_5w55 e_M_5w55
                          have I_M_5w55 := r_sfi I_M_19w53 e_M_5w55 (by decide +kernel)
                          exact k _ (r_w I_M_5w55 (by omega) (by omega))
                        · refine t_X8_acknowledge I_M_19w53 (fun M_6w55 I_M_6w55 => ?_)
                          exact k _ (r_w I_M_6w55 (by omega) (by omega))
                    · refine z_nn_of (s_1033_28 I_M_36w51.1) ?_
                      refine And.intro (vp_of (L := 400) (s_l30 I_M_36w51.1) (by (first | omega | (simp only [Int32.not_lt, Int32.not_le, Int32.lt_iff_toInt_lt, Int32.le_iff_toInt_le] at *; omega))) (by (first | omega | (simp only [Int32.not_lt, Int32.not_le, Int32.lt_iff_toInt_lt, Int32.le_iff_toInt_le] at *; omega)))) ?_
                      intro M_10w57 e_M_10w57
                      have I_M_10w57 := r_sai I_M_36w51 e_M_10w57 (by omega)
                      intro M_12w57 e_M_12w57
                      have I_M_12w57 := r_sfi I_M_10w57 e_M_12w57 (by decide +kernel)
                      intro M_14w57 e_M_14w57
                      have I_M_14w57 := r_sfi I_M_12w57 e_M_14w57 (by decide +kernel)
                      refine z_nn_of rfl ?_
                      refine And.intro (fun c66 => ?_) (fun c66 => ?_)
                      · refine And.intro (fun c67 => ?_) (fun c67 => ?_)
                        · refine z_nn_of (s_1024_28 I_M_14w57.1) ?_
                          intro M_5w58 e_M_5w58
                          have I_M_5w58 := r_sfi I_M_14w57 e_M_5w58 (by decide +kernel)
                          exact k _ (r_w I_M_5w58 (by omega) (by omega))
                        · refine t_X8_acknowledge I_M_14w57 (fun M_6w58 I_M_6w58 => ?_)
                          exact k _ (r_w I_M_6w58 (by omega) (by omega))
                      · intro M_19w57 e_M_19w57
                        have I_M_19w57 := r_sfi I_M_14w57 e_M_19w57 (by decide +kernel)
                        refine And.intro (fun c68 => ?_) (fun c68 => ?_)
                        · refine z_nn_of (s_1024_28 I_M_19w57.1) ?_
                          intro M_5w59 e_M_5w59
                          have I_M_5w59 := r_sfi I_M_19w57 e_M_5w59 (by decide +kernel)
                          exact k _ (r_w I_M_5w59 (by omega) (by omega))
                        · refine t_X8_acknowledge I_M_19w57 (fun M_6w59 I_M_6w59 => ?_)
                          exact k _ (r_w I_M_6w59 (by omega) (by omega))
                  · refine z_nn_of (s_1033_28 I_M_36w51.1) ?_
                    refine And.intro (vp_of (L := 400) (s_l30 I_M_36w51.1) (by (first | omega | (simp only [Int32.not_lt, Int32.not_le, Int32.lt_iff_toInt_lt, Int32.le_iff_toInt_le] at *; omega))) (by (first | omega | (simp only [Int32.not_lt, Int32.not_le, Int32.lt_iff_toInt_lt, Int32.le_iff_toInt_le] at *; omega)))) ?_
                    intro M_10w61 e_M_10w61
                    have I_M_10w61 := r_sai I_M_36w51 e_M_10w61 (by omega)
                    intro M_12w61 e_M_12w61
                    have I_M_12w61 := r_sfi I_M_10w61 e_M_12w61 (by decide +kernel)
                    intro M_14w61 e_M_14w61
                    have I_M_14w61 := r_sfi I_M_12w61 e_M_14w61 (by decide +kernel)
                    refine z_nn_of rfl ?_
                    refine And.intro (fun c69 => ?_) (fun c69 => ?_)
                    · refine And.intro (fun c70 => ?_) (fun c70 => ?_)
                      · refine z_nn_of (s_1024_28 I_M_14w61.1) ?_
                        intro M_5w62 e_M_5w62
                        have I_M_5w62 := r_sfi I_M_14w61 e_M_5w62 (by decide +kernel)
                        exact k _ (r_w I_M_5w62 (by omega) (by omega))
                      · refine t_X8_acknowledge I_M_14w61 (fun M_6w62 I_M_6w62 => ?_)
                        exact k _ (r_w I_M_6w62 (by omega) (by omega))
                    · intro M_19w61 e_M_19w61
                      have I_M_19w61 := r_sfi I_M_14w61 e_M_19w61 (by decide +kernel)
                      refine And.intro (fun c71 => ?_) (fun c71 => ?_)
                      · refine z_nn_of (s_1024_28 I_M_19w61.1) ?_
                        intro M_5w63 e_M_5w63
                        have I_M_5w63 := r_sfi I_M_19w61 e_M_5w63 (by decide +kernel)
                        exact k _ (r_w I_M_5w63 (by omega) (by omega))
                      · refine t_X8_acknowledge I_M_19w61 (fun M_6w63 I_M_6w63 => ?_)
                        exact k _ (r_w I_M_6w63 (by omega) (by omega))
                · refine z_nn_of (s_1033_28 I_M_36w51.1) ?_
                  refine And.intro (vp_of (L := 400) (s_l30 I_M_36w51.1) (by (first | omega | (simp only [Int32.not_lt, Int32.not_le, Int32.lt_iff_toInt_lt, Int32.le_iff_toInt_le] at *; omega))) (by (first | omega | (simp only [Int32.not_lt, Int32.not_le, Int32.lt_iff_toInt_lt, Int32.le_iff_toInt_le] at *; omega)))) ?_
                  intro M_10w65 e_M_10w65
                  have I_M_10w65 := r_sai I_M_36w51 e_M_10w65 (by omega)
                  intro M_12w65 e_M_12w65
                  have I_M_12w65 := r_sfi I_M_10w65 e_M_12w65 (by decide +kernel)
                  intro M_14w65 e_M_14w65
                  have I_M_14w65 := r_sfi I_M_12w65 e_M_14w65 (by decide +kernel)
                  refine z_nn_of rfl ?_
                  refine And.intro (fun c72 => ?_) (fun c72 => ?_)
                  · refine And.intro (fun c73 => ?_) (fun c73 => ?_)
                    · refine z_nn_of (s_1024_28 I_M_14w65.1) ?_
                      intro M_5w66 e_M_5w66
                      have I_M_5w66 := r_sfi I_M_14w65 e_M_5w66 (by decide +kernel)
                      exact k _ (r_w I_M_5w66 (by omega) (by omega))
                    · refine t_X8_acknowledge I_M_14w65 (fun M_6w66 I_M_6w66 => ?_)
                      exact k _ (r_w I_M_6w66 (by omega) (by omega))
                  · intro M_19w65 e_M_19w65
                    have I_M_19w65 := r_sfi I_M_14w65 e_M_19w65 (by decide +kernel)
                    refine And.intro (fun c74 => ?_) (fun c74 => ?_)
                    · refine z_nn_of (s_1024_28 I_M_19w65.1) ?_
                      intro M_5w67 e_M_5w67
                      have I_M_5w67 := r_sfi I_M_19w65 e_M_5w67 (by decide +kernel)
                      exact k _ (r_w I_M_5w67 (by omega) (by omega))
                    · refine t_X8_acknowledge I_M_19w65 (fun M_6w67 I_M_6w67 => ?_)
                      exact k _ (r_w I_M_6w67 (by omega) (by omega))
              · refine And.intro (fun c75 => ?_) (fun c75 => ?_)
                · refine z_nn_of rfl ?_
                  refine And.intro (fun c76 => ?_) (fun c76 => ?_)
                  · refine And.intro (fun c77 => ?_) (fun c77 => ?_)
                    · refine And.intro (fun c78 => ?_) (fun c78 => ?_)
                      · refine z_nn_of (s_1033_28 I_M_36w51.1) ?_
                        refine And.intro (vp_of (L := 400) (s_l30 I_M_36w51.1) (by (first | omega | (simp only [Int32.not_lt, Int32.not_le, Int32.lt_iff_toInt_lt, Int32.le_iff_toInt_le] at *; omega))) (by (first | omega | (simp only [Int32.not_lt, Int32.not_le, Int32.lt_iff_toInt_lt, Int32.le_iff_toInt_le] at *; omega)))) ?_
                        intro M_10w69 e_M_10w69
                        have I_M_10w69 := r_sai I_M_36w51 e_M_10w69 (by omega)
                        intro M_12w69 e_M_12w69
                        have I_M_12w69 := r_sfi I_M_10w69 e_M_12w69 (by decide +kernel)
                        intro M_14w69 e_M_14w69
                        have I_M_14w69 := r_sfi I_M_12w69 e_M_14w69 (by decide +kernel)
                        refine z_nn_of rfl ?_
                        refine And.intro (fun c79 => ?_) (fun c79 => ?_)
                        · refine And.intro (fun c80 => ?_) (fun c80 => ?_)
                          · refine z_nn_of (s_1024_28 I_M_14w69.1) ?_
                            intro M_5w70 e_M_5w70
                            have I_M_5w70 := r_sfi I_M_14w69 e_M_5w70 (by decide +kernel)
                            exact k _ (r_w I_M_5w70 (by omega) (by omega))
                          · refine t_X8_acknowledge I_M_14w69 (fun M_6w70 I_M_6w70 => ?_)
                            exact k _ (r_w I_M_6w70 (by omega) (by omega))
                        · intro M_19w69 e_M_19w69
                          have I_M_19w69 := r_sfi I_M_14w69 e_M_19w69 (by decide +kernel)
                          refine And.intro (fun c81 => ?_) (fun c81 => ?_)
                          · refine z_nn_of (s_1024_28 I_M_19w69.1) ?_
                            intro M_5w71 e_M_5w71
                            have I_M_5w71 := r_sfi I_M_19w69 e_M_5w71 (by decide +kernel)
                            exact k _ (r_w I_M_5w71 (by omega) (by omega))
                          · refine t_X8_acknowledge I_M_19w69 (fun M_6w71 I_M_6w71 => ?_)
                            exact k _ (r_w I_M_6w71 (by omega) (by omega))
                      · refine z_nn_of (s_1033_28 I_M_36w51.1) ?_
                        refine And.intro (vp_of (L := 400) (s_l30 I_M_36w51.1) (by (first | omega | (simp only [Int32.not_lt, Int32.not_le, Int32.lt_iff_toInt_lt, Int32.le_iff_toInt_le] at *; omega))) (by (first | omega | (simp only [Int32.not_lt, Int32.not_le, Int32.lt_iff_toInt_lt, Int32.le_iff_toInt_le] at *; omega)))) ?_
                        intro M_10w73 e_M_10w73
                        have I_M_10w73 := r_sai I_M_36w51 e_M_10w73 (by omega)
                        intro M_12w73 e_M_12w73
                        have I_M_12w73 := r_sfi I_M_10w73 e_M_12w73 (by decide +kernel)
                        intro M_14w73 e_M_14w73
                        have I_M_14w73 := r_sfi I_M_12w73 e_M_14w73 (by decide +kernel)
                        refine z_nn_of rfl ?_
                        refine And.intro (fun c82 => ?_) (fun c82 => ?_)
                        · refine And.intro (fun c83 => ?_) (fun c83 => ?_)
                          · refine z_nn_of (s_1024_28 I_M_14w73.1) ?_
                            intro M_5w74 e_M_5w74
                            have I_M_5w74 := r_sfi I_M_14w73 e_M_5w74 (by decide +kernel)
                            exact k _ (r_w I_M_5w74 (by omega) (by omega))
                          · refine t_X8_acknowledge I_M_14w73 (fun M_6w74 I_M_6w74 => ?_)
                            exact k _ (r_w I_M_6w74 (by omega) (by omega))
                        · intro M_19w73 e_M_19w73
                          have I_M_19w73 := r_sfi I_M_14w73 e_M_19w73 (by decide +kernel)
                          refine And.intro (fun c84 => ?_) (fun c84 => ?_)
                          · refine z_nn_of (s_1024_28 I_M_19w73.1) ?_
                            intro M_5w75 e_M_5w75
                            have I_M_5w75 := r_sfi I_M_19w73 e_M_5w75 (by decide +kernel)
                            exact k _ (r_w I_M_5w75 (by omega) (by omega))
                          · refine t_X8_acknowledge I_M_19w73 (fun M_6w75 I_M_6w75 => ?_)
                            exact k _ (r_w I_M_6w75 (by omega) (by omega))
                    · refine z_nn_of (s_1033_28 I_M_36w51.1) ?_
                      refine And.intro (vp_of (L := 400) (s_l30 I_M_36w51.1) (by (first | omega | (simp only [Int32.not_lt, Int32.not_le, Int32.lt_iff_toInt_lt, Int32.le_iff_toInt_le] at *; omega))) (by (first | omega | (simp only [Int32.not_lt, Int32.not_le, Int32.lt_iff_toInt_lt, Int32.le_iff_toInt_le] at *; omega)))) ?_
                      intro M_10w77 e_M_10w77
                      have I_M_10w77 := r_sai I_M_36w51 e_M_10w77 (by omega)
                      intro M_12w77 e_M_12w77
                      have I_M_12w77 := r_sfi I_M_10w77 e_M_12w77 (by decide +kernel)
                      intro M_14w77 e_M_14w77
                      have I_M_14w77 := r_sfi I_M_12w77 e_M_14w77 (by decide +kernel)
                      refine z_nn_of rfl ?_
                      refine And.intro (fun c85 => ?_) (fun c85 => ?_)
                      · refine And.intro (fun c86 => ?_) (fun c86 => ?_)
                        · refine z_nn_of (s_1024_28 I_M_14w77.1) ?_
                          intro M_5w78 e_M_5w78
                          have I_M_5w78 := r_sfi I_M_14w77 e_M_5w78 (by decide +kernel)
                          exact k _ (r_w I_M_5w78 (by omega) (by omega))
                        · refine t_X8_acknowledge I_M_14w77 (fun M_6w78 I_M_6w78 => ?_)
                          exact k _ (r_w I_M_6w78 (by omega) (by omega))
                      · intro M_19w77 e_M_19w77
                        have I_M_19w77 := r_sfi I_M_14w77 e_M_19w77 (by decide +kernel)
                        refine And.intro (fun c87 => ?_) (fun c87 => ?_)
                        · refine z_nn_of (s_1024_28 I_M_19w77.1) ?_
                          intro M_5w79 e_M_5w79
                          have I_M_5w79 := r_sfi I_M_19w77 e_M_5w79 (by decide +kernel)
                          exact k _ (r_w I_M_5w79 (by omega) (by omega))
                        · refine t_X8_acknowledge I_M_19w77 (fun M_6w79 I_M_6w79 => ?_)
                          exact k _ (r_w I_M_6w79 (by omega) (by omega))
                  · refine z_nn_of (s_1033_28 I_M_36w51.1) ?_
                    refine And.intro (vp_of (L := 400) (s_l30 I_M_36w51.1) (by (first | omega | (simp only [Int32.not_lt, Int32.not_le, Int32.lt_iff_toInt_lt, Int32.le_iff_toInt_le] at *; omega))) (by (first | omega | (simp only [Int32.not_lt, Int32.not_le, Int32.lt_iff_toInt_lt, Int32.le_iff_toInt_le] at *; omega)))) ?_
                    intro M_10w81 e_M_10w81
                    have I_M_10w81 := r_sai I_M_36w51 e_M_10w81 (by omega)
                    intro M_12w81 e_M_12w81
                    have I_M_12w81 := r_sfi I_M_10w81 e_M_12w81 (by decide +kernel)
                    intro M_14w81 e_M_14w81
                    have I_M_14w81 := r_sfi I_M_12w81 e_M_14w81 (by decide +kernel)
                    refine z_nn_of rfl ?_
                    refine And.intro (fun c88 => ?_) (fun c88 => ?_)
                    · refine And.intro (fun c89 => ?_) (fun c89 => ?_)
                      · refine z_nn_of (s_1024_28 I_M_14w81.1) ?_
                        intro M_5w82 e_M_5w82
                        have I_M_5w82 := r_sfi I_M_14w81 e_M_5w82 (by decide +kernel)
                        exact k _ (r_w I_M_5w82 (by omega) (by omega))
                      · refine t_X8_acknowledge I_M_14w81 (fun M_6w82 I_M_6w82 => ?_)
                        exact k _ (r_w I_M_6w82 (by omega) (by omega))
                    · intro M_19w81 e_M_19w81
                      have I_M_19w81 := r_sfi I_M_14w81 e_M_19w81 (by decide +kernel)
                      refine And.intro (fun c90 => ?_) (fun c90 => ?_)
                      · refine z_nn_of (s_1024_28 I_M_19w81.1) ?_
                        intro M_5w83 e_M_5w83
                        have I_M_5w83 := r_sfi I_M_19w81 e_M_5w83 (by decide +kernel)
                        exact k _ (r_w I_M_5w83 (by omega) (by omega))
                      · refine t_X8_acknowledge I_M_19w81 (fun M_6w83 I_M_6w83 => ?_)
                        exact k _ (r_w I_M_6w83 (by omega) (by omega))
                · refine z_nn_of (s_1025_28 I_M_36w51.1) ?_
                  refine And.intro (vp_of (L := 4) (s_l11 I_M_36w51.1) (y_str I_M_36w51 _).1 (y_str I_M_36w51 _).2) ?_
                  obtain ⟨st91, hs91, hx91⟩ := t_strAt (x := (z_fi M_36w51 771 q)) I_M_36w51.1 (y_str I_M_36w51 _).1 (y_str I_M_36w51 _).2
                  refine z_nn_of hs91 ?_
                  refine t_X9_arrive I_M_36w51 (by omega) (fun M_47w51 I_M_47w51 => ?_)
                  refine z_nn_of rfl ?_
                  refine And.intro (fun c92 => ?_) (fun c92 => ?_)
                  · refine And.intro (fun c93 => ?_) (fun c93 => ?_)
                    · refine And.intro (fun c94 => ?_) (fun c94 => ?_)
                      · refine z_nn_of (s_1033_28 I_M_47w51.1) ?_
                        refine And.intro (vp_of (L := 400) (s_l30 I_M_47w51.1) (by (first | omega | (simp only [Int32.not_lt, Int32.not_le, Int32.lt_iff_toInt_lt, Int32.le_iff_toInt_le] at *; omega))) (by (first | omega | (simp only [Int32.not_lt, Int32.not_le, Int32.lt_iff_toInt_lt, Int32.le_iff_toInt_le] at *; omega)))) ?_
                        intro M_10w85 e_M_10w85
                        have I_M_10w85 := r_sai I_M_47w51 e_M_10w85 (by omega)
                        intro M_12w85 e_M_12w85
                        have I_M_12w85 := r_sfi I_M_10w85 e_M_12w85 (by decide +kernel)
                        intro M_14w85 e_M_14w85
                        have I_M_14w85 := r_sfi I_M_12w85 e_M_14w85 (by decide +kernel)
                        refine z_nn_of rfl ?_
                        refine And.intro (fun c95 => ?_) (fun c95 => ?_)
                        · refine And.intro (fun c96 => ?_) (fun c96 => ?_)
                          · refine z_nn_of (s_1024_28 I_M_14w85.1) ?_
                            intro M_5w86 e_M_5w86
                            have I_M_5w86 := r_sfi I_M_14w85 e_M_5w86 (by decide +kernel)
                            exact k _ (r_w I_M_5w86 (by omega) (by omega))
                          · refine t_X8_acknowledge I_M_14w85 (fun M_6w86 I_M_6w86 => ?_)
                            exact k _ (r_w I_M_6w86 (by omega) (by omega))
                        · intro M_19w85 e_M_19w85
                          have I_M_19w85 := r_sfi I_M_14w85 e_M_19w85 (by decide +kernel)
                          refine And.intro (fun c97 => ?_) (fun c97 => ?_)
                          · refine z_nn_of (s_1024_28 I_M_19w85.1) ?_
                            intro M_5w87 e_M_5w87
                            have I_M_5w87 := r_sfi I_M_19w85 e_M_5w87 (by decide +kernel)
                            exact k _ (r_w I_M_5w87 (by omega) (by omega))
                          · refine t_X8_acknowledge I_M_19w85 (fun M_6w87 I_M_6w87 => ?_)
                            exact k _ (r_w I_M_6w87 (by omega) (by omega))
                      · refine z_nn_of (s_1033_28 I_M_47w51.1) ?_
                        refine And.intro (vp_of (L := 400) (s_l30 I_M_47w51.1) (by (first | omega | (simp only [Int32.not_lt, Int32.not_le, Int32.lt_iff_toInt_lt, Int32.le_iff_toInt_le] at *; omega))) (by (first | omega | (simp only [Int32.not_lt, Int32.not_le, Int32.lt_iff_toInt_lt, Int32.le_iff_toInt_le] at *; omega)))) ?_
                        intro M_10w89 e_M_10w89
                        have I_M_10w89 := r_sai I_M_47w51 e_M_10w89 (by omega)
                        intro M_12w89 e_M_12w89
                        have I_M_12w89 := r_sfi I_M_10w89 e_M_12w89 (by decide +kernel)
                        intro M_14w89 e_M_14w89
                        have I_M_14w89 := r_sfi I_M_12w89 e_M_14w89 (by decide +kernel)
                        refine z_nn_of rfl ?_
                        refine And.intro (fun c98 => ?_) (fun c98 => ?_)
                        · refine And.intro (fun c99 => ?_) (fun c99 => ?_)
                          · refine z_nn_of (s_1024_28 I_M_14w89.1) ?_
                            intro M_5w90 e_M_5w90
                            have I_M_5w90 := r_sfi I_M_14w89 e_M_5w90 (by decide +kernel)
                            exact k _ (r_w I_M_5w90 (by omega) (by omega))
                          · refine t_X8_acknowledge I_M_14w89 (fun M_6w90 I_M_6w90 => ?_)
                            exact k _ (r_w I_M_6w90 (by omega) (by omega))
                        · intro M_19w89 e_M_19w89
                          have I_M_19w89 := r_sfi I_M_14w89 e_M_19w89 (by decide +kernel)
                          refine And.intro (fun c100 => ?_) (fun c100 => ?_)
                          · refine z_nn_of (s_1024_28 I_M_19w89.1) ?_
                            intro M_5w91 e_M_5w91
                            have I_M_5w91 := r_sfi I_M_19w89 e_M_5w91 (by decide +kernel)
                            exact k _ (r_w I_M_5w91 (by omega) (by omega))
                          · refine t_X8_acknowledge I_M_19w89 (fun M_6w91 I_M_6w91 => ?_)
                            exact k _ (r_w I_M_6w91 (by omega) (by omega))
                    · refine z_nn_of (s_1033_28 I_M_47w51.1) ?_
                      refine And.intro (vp_of (L := 400) (s_l30 I_M_47w51.1) (by (first | omega | (simp only [Int32.not_lt, Int32.not_le, Int32.lt_iff_toInt_lt, Int32.le_iff_toInt_le] at *; omega))) (by (first | omega | (simp only [Int32.not_lt, Int32.not_le, Int32.lt_iff_toInt_lt, Int32.le_iff_toInt_le] at *; omega)))) ?_
                      intro M_10w93 e_M_10w93
                      have I_M_10w93 := r_sai I_M_47w51 e_M_10w93 (by omega)
                      intro M_12w93 e_M_12w93
                      have I_M_12w93 := r_sfi I_M_10w93 e_M_12w93 (by decide +kernel)
                      intro M_14w93 e_M_14w93
                      have I_M_14w93 := r_sfi I_M_12w93 e_M_14w93 (by decide +kernel)
                      refine z_nn_of rfl ?_
                      refine And.intro (fun c101 => ?_) (fun c101 => ?_)
                      · refine And.intro (fun c102 => ?_) (fun c102 => ?_)
                        · refine z_nn_of (s_1024_28 I_M_14w93.1) ?_
                          intro M_5w94 e_M_5w94
                          have I_M_5w94 := r_sfi I_M_14w93 e_M_5w94 (by decide +kernel)
                          exact k _ (r_w I_M_5w94 (by omega) (by omega))
                        · refine t_X8_acknowledge I_M_14w93 (fun M_6w94 I_M_6w94 => ?_)
                          exact k _ (r_w I_M_6w94 (by omega) (by omega))
                      · intro M_19w93 e_M_19w93
                        have I_M_19w93 := r_sfi I_M_14w93 e_M_19w93 (by decide +kernel)
                        refine And.intro (fun c103 => ?_) (fun c103 => ?_)
                        · refine z_nn_of (s_1024_28 I_M_19w93.1) ?_
                          intro M_5w95 e_M_5w95
                          have I_M_5w95 := r_sfi I_M_19w93 e_M_5w95 (by decide +kernel)
                          exact k _ (r_w I_M_5w95 (by omega) (by omega))
                        · refine t_X8_acknowledge I_M_19w93 (fun M_6w95 I_M_6w95 => ?_)
                          exact k _ (r_w I_M_6w95 (by omega) (by omega))
                  · refine z_nn_of (s_1033_28 I_M_47w51.1) ?_
                    refine And.intro (vp_of (L := 400) (s_l30 I_M_47w51.1) (by (first | omega | (simp only [Int32.not_lt, Int32.not_le, Int32.lt_iff_toInt_lt, Int32.le_iff_toInt_le] at *; omega))) (by (first | omega | (simp only [Int32.not_lt, Int32.not_le, Int32.lt_iff_toInt_lt, Int32.le_iff_toInt_le] at *; omega)))) ?_
                    intro M_10w97 e_M_10w97
                    have I_M_10w97 := r_sai I_M_47w51 e_M_10w97 (by omega)
                    intro M_12w97 e_M_12w97
                    have I_M_12w97 := r_sfi I_M_10w97 e_M_12w97 (by decide +kernel)
                    intro M_14w97 e_M_14w97
                    have I_M_14w97 := r_sfi I_M_12w97 e_M_14w97 (by decide +kernel)
                    refine z_nn_of rfl ?_
                    refine And.intro (fun c104 => ?_) (fun c104 => ?_)
                    · refine And.intro (fun c105 => ?_) (fun c105 => ?_)
                      · refine z_nn_of (s_1024_28 I_M_14w97.1) ?_
                        intro M_5w98 e_M_5w98
                        have I_M_5w98 := r_sfi I_M_14w97 e_M_5w98 (by decide +kernel)
                        exact k _ (r_w I_M_5w98 (by omega) (by omega))
                      · refine t_X8_acknowledge I_M_14w97 (fun M_6w98 I_M_6w98 => ?_)
                        exact k _ (r_w I_M_6w98 (by omega) (by omega))
                    · intro M_19w97 e_M_19w97
                      have I_M_19w97 := r_sfi I_M_14w97 e_M_19w97 (by decide +kernel)
                      refine And.intro (fun c106 => ?_) (fun c106 => ?_)
                      · refine z_nn_of (s_1024_28 I_M_19w97.1) ?_
                        intro M_5w99 e_M_5w99
                        have I_M_5w99 := r_sfi I_M_19w97 e_M_5w99 (by decide +kernel)
                        exact k _ (r_w I_M_5w99 (by omega) (by omega))
                      · refine t_X8_acknowledge I_M_19w97 (fun M_6w99 I_M_6w99 => ?_)
                        exact k _ (r_w I_M_6w99 (by omega) (by omega))
            · exact k _ (r_w I_M_32w51 (by omega) (by omega))
      · exact k _ (r_w I (by omega) (by omega))
    · refine z_nn_of rfl ?_
      intro x_29w101 e_x_29w101
      refine And.intro (fun c107 => ?_) (fun c107 => ?_)
      · refine t_X8_takesKey I rfl (fun x_32w101 M_32w101 I_M_32w101 => ?_)
        refine And.intro (fun c108 => ?_) (fun c108 => ?_)
        · exact k _ (r_w I_M_32w101 (by omega) (by omega))
        · refine And.intro (fun c109 => ?_) (fun c109 => ?_)
          · exact k _ (r_w I_M_32w101 (by omega) (by omega))
          · refine And.intro (fun c110 => ?_) (fun c110 => ?_)
            · intro M_36w101 e_M_36w101
              have I_M_36w101 := r_sfi I_M_32w101 e_M_36w101 (by decide +kernel)
              refine And.intro (fun c111 => ?_) (fun c111 => ?_)
              · refine z_nn_of rfl ?_
                refine And.intro (fun c112 => ?_) (fun c112 => ?_)
                · refine And.intro (fun c113 => ?_) (fun c113 => ?_)
                  · refine And.intro (fun c114 => ?_) (fun c114 => ?_)
                    · refine z_nn_of (s_1033_28 I_M_36w101.1) ?_
                      refine And.intro (vp_of (L := 400) (s_l30 I_M_36w101.1) (by (first | omega | (simp only [Int32.not_lt, Int32.not_le, Int32.lt_iff_toInt_lt, Int32.le_iff_toInt_le] at *; omega))) (by (first | omega | (simp only [Int32.not_lt, Int32.not_le, Int32.lt_iff_toInt_lt, Int32.le_iff_toInt_le] at *; omega)))) ?_
                      intro M_10w103 e_M_10w103
                      have I_M_10w103 := r_sai I_M_36w101 e_M_10w103 (by omega)
                      intro M_12w103 e_M_12w103
                      have I_M_12w103 := r_sfi I_M_10w103 e_M_12w103 (by decide +kernel)
                      intro M_14w103 e_M_14w103
                      have I_M_14w103 := r_sfi I_M_12w103 e_M_14w103 (by decide +kernel)
                      refine z_nn_of rfl ?_
                      refine And.intro (fun c115 => ?_) (fun c115 => ?_)
                      · refine And.intro (fun c116 => ?_) (fun c116 => ?_)
                        · refine z_nn_of (s_1024_28 I_M_14w103.1) ?_
                          intro M_5w104 e_M_5w104
                          have I_M_5w104 := r_sfi I_M_14w103 e_M_5w104 (by decide +kernel)
                          exact k _ (r_w I_M_5w104 (by omega) (by omega))
                        · refine t_X8_acknowledge I_M_14w103 (fun M_6w104 I_M_6w104 => ?_)
                          exact k _ (r_w I_M_6w104 (by omega) (by omega))
                      · intro M_19w103 e_M_19w103
                        have I_M_19w103 := r_sfi I_M_14w103 e_M_19w103 (by decide +kernel)
                        refine And.intro (fun c117 => ?_) (fun c117 => ?_)
                        · refine z_nn_of (s_1024_28 I_M_19w103.1) ?_
                          intro M_5w105 e_M_5w105
                          have I_M_5w105 := r_sfi I_M_19w103 e_M_5w105 (by decide +kernel)
                          exact k _ (r_w I_M_5w105 (by omega) (by omega))
                        · refine t_X8_acknowledge I_M_19w103 (fun M_6w105 I_M_6w105 => ?_)
                          exact k _ (r_w I_M_6w105 (by omega) (by omega))
                    · refine z_nn_of (s_1033_28 I_M_36w101.1) ?_
                      refine And.intro (vp_of (L := 400) (s_l30 I_M_36w101.1) (by (first | omega | (simp only [Int32.not_lt, Int32.not_le, Int32.lt_iff_toInt_lt, Int32.le_iff_toInt_le] at *; omega))) (by (first | omega | (simp only [Int32.not_lt, Int32.not_le, Int32.lt_iff_toInt_lt, Int32.le_iff_toInt_le] at *; omega)))) ?_
                      intro M_10w107 e_M_10w107
                      have I_M_10w107 := r_sai I_M_36w101 e_M_10w107 (by omega)
                      intro M_12w107 e_M_12w107
                      have I_M_12w107 := r_sfi I_M_10w107 e_M_12w107 (by decide +kernel)
                      intro M_14w107 e_M_14w107
                      have I_M_14w107 := r_sfi I_M_12w107 e_M_14w107 (by decide +kernel)
                      refine z_nn_of rfl ?_
                      refine And.intro (fun c118 => ?_) (fun c118 => ?_)
                      · refine And.intro (fun c119 => ?_) (fun c119 => ?_)
                        · refine z_nn_of (s_1024_28 I_M_14w107.1) ?_
                          intro M_5w108 e_M_5w108
                          have I_M_5w108 := r_sfi I_M_14w107 e_M_5w108 (by decide +kernel)
                          exact k _ (r_w I_M_5w108 (by omega) (by omega))
                        · refine t_X8_acknowledge I_M_14w107 (fun M_6w108 I_M_6w108 => ?_)
                          exact k _ (r_w I_M_6w108 (by omega) (by omega))
                      · intro M_19w107 e_M_19w107
                        have I_M_19w107 := r_sfi I_M_14w107 e_M_19w107 (by decide +kernel)
                        refine And.intro (fun c120 => ?_) (fun c120 => ?_)
                        · refine z_nn_of (s_1024_28 I_M_19w107.1) ?_
                          intro M_5w109 e_M_5w109
                          have I_M_5w109 := r_sfi I_M_19w107 e_M_5w109 (by decide +kernel)
                          exact k _ (r_w I_M_5w109 (by omega) (by omega))
                        · refine t_X8_acknowledge I_M_19w107 (fun M_6w109 I_M_6w109 => ?_)
                          exact k _ (r_w I_M_6w109 (by omega) (by omega))
                  · refine z_nn_of (s_1033_28 I_M_36w101.1) ?_
                    refine And.intro (vp_of (L := 400) (s_l30 I_M_36w101.1) (by (first | omega | (simp only [Int32.not_lt, Int32.not_le, Int32.lt_iff_toInt_lt, Int32.le_iff_toInt_le] at *; omega))) (by (first | omega | (simp only [Int32.not_lt, Int32.not_le, Int32.lt_iff_toInt_lt, Int32.le_iff_toInt_le] at *; omega)))) ?_
                    intro M_10w111 e_M_10w111
                    have I_M_10w111 := r_sai I_M_36w101 e_M_10w111 (by omega)
                    intro M_12w111 e_M_12w111
                    have I_M_12w111 := r_sfi I_M_10w111 e_M_12w111 (by decide +kernel)
                    intro M_14w111 e_M_14w111
                    have I_M_14w111 := r_sfi I_M_12w111 e_M_14w111 (by decide +kernel)
                    refine z_nn_of rfl ?_
                    refine And.intro (fun c121 => ?_) (fun c121 => ?_)
                    · refine And.intro (fun c122 => ?_) (fun c122 => ?_)
                      · refine z_nn_of (s_1024_28 I_M_14w111.1) ?_
                        intro M_5w112 e_M_5w112
                        have I_M_5w112 := r_sfi I_M_14w111 e_M_5w112 (by decide +kernel)
                        exact k _ (r_w I_M_5w112 (by omega) (by omega))
                      · refine t_X8_acknowledge I_M_14w111 (fun M_6w112 I_M_6w112 => ?_)
                        exact k _ (r_w I_M_6w112 (by omega) (by omega))
                    · intro M_19w111 e_M_19w111
                      have I_M_19w111 := r_sfi I_M_14w111 e_M_19w111 (by decide +kernel)
                      refine And.intro (fun c123 => ?_) (fun c123 => ?_)
                      · refine z_nn_of (s_1024_28 I_M_19w111.1) ?_
                        intro M_5w113 e_M_5w113
                        have I_M_5w113 := r_sfi I_M_19w111 e_M_5w113 (by decide +kernel)
                        exact k _ (r_w I_M_5w113 (by omega) (by omega))
                      · refine t_X8_acknowledge I_M_19w111 (fun M_6w113 I_M_6w113 => ?_)
                        exact k _ (r_w I_M_6w113 (by omega) (by omega))
                · refine z_nn_of (s_1033_28 I_M_36w101.1) ?_
                  refine And.intro (vp_of (L := 400) (s_l30 I_M_36w101.1) (by (first | omega | (simp only [Int32.not_lt, Int32.not_le, Int32.lt_iff_toInt_lt, Int32.le_iff_toInt_le] at *; omega))) (by (first | omega | (simp only [Int32.not_lt, Int32.not_le, Int32.lt_iff_toInt_lt, Int32.le_iff_toInt_le] at *; omega)))) ?_
                  intro M_10w115 e_M_10w115
                  have I_M_10w115 := r_sai I_M_36w101 e_M_10w115 (by omega)
                  intro M_12w115 e_M_12w115
                  have I_M_12w115 := r_sfi I_M_10w115 e_M_12w115 (by decide +kernel)
                  intro M_14w115 e_M_14w115
                  have I_M_14w115 := r_sfi I_M_12w115 e_M_14w115 (by decide +kernel)
                  refine z_nn_of rfl ?_
                  refine And.intro (fun c124 => ?_) (fun c124 => ?_)
                  · refine And.intro (fun c125 => ?_) (fun c125 => ?_)
                    · refine z_nn_of (s_1024_28 I_M_14w115.1) ?_
                      intro M_5w116 e_M_5w116
                      have I_M_5w116 := r_sfi I_M_14w115 e_M_5w116 (by decide +kernel)
                      exact k _ (r_w I_M_5w116 (by omega) (by omega))
                    · refine t_X8_acknowledge I_M_14w115 (fun M_6w116 I_M_6w116 => ?_)
                      exact k _ (r_w I_M_6w116 (by omega) (by omega))
                  · intro M_19w115 e_M_19w115
                    have I_M_19w115 := r_sfi I_M_14w115 e_M_19w115 (by decide +kernel)
                    refine And.intro (fun c126 => ?_) (fun c126 => ?_)
                    · refine z_nn_of (s_1024_28 I_M_19w115.1) ?_
                      intro M_5w117 e_M_5w117
                      have I_M_5w117 := r_sfi I_M_19w115 e_M_5w117 (by decide +kernel)
                      exact k _ (r_w I_M_5w117 (by omega) (by omega))
                    · refine t_X8_acknowledge I_M_19w115 (fun M_6w117 I_M_6w117 => ?_)
                      exact k _ (r_w I_M_6w117 (by omega) (by omega))
              · refine And.intro (fun c127 => ?_) (fun c127 => ?_)
                · refine z_nn_of rfl ?_
                  refine And.intro (fun c128 => ?_) (fun c128 => ?_)
                  · refine And.intro (fun c129 => ?_) (fun c129 => ?_)
                    · refine And.intro (fun c130 => ?_) (fun c130 => ?_)
                      · refine z_nn_of (s_1033_28 I_M_36w101.1) ?_
                        refine And.intro (vp_of (L := 400) (s_l30 I_M_36w101.1) (by (first | omega | (simp only [Int32.not_lt, Int32.not_le, Int32.lt_iff_toInt_lt, Int32.le_iff_toInt_le] at *; omega))) (by (first | omega | (simp only [Int32.not_lt, Int32.not_le, Int32.lt_iff_toInt_lt, Int32.le_iff_toInt_le] at *; omega)))) ?_
                        intro M_10w119 e_M_10w119
                        have I_M_10w119 := r_sai I_M_36w101 e_M_10w119 (by omega)
                        intro M_12w119 e_M_12w119
                        have I_M_12w119 := r_sfi I_M_10w119 e_M_12w119 (by decide +kernel)
                        intro M_14w119 e_M_14w119
                        have I_M_14w119 := r_sfi I_M_12w119 e_M_14w119 (by decide +kernel)
                        refine z_nn_of rfl ?_
                        refine And.intro (fun c131 => ?_) (fun c131 => ?_)
                        · refine And.intro (fun c132 => ?_) (fun c132 => ?_)
                          · refine z_nn_of (s_1024_28 I_M_14w119.1) ?_
                            intro M_5w120 e_M_5w120
                            have I_M_5w120 := r_sfi I_M_14w119 e_M_5w120 (by decide +kernel)
                            exact k _ (r_w I_M_5w120 (by omega) (by omega))
                          · refine t_X8_acknowledge I_M_14w119 (fun M_6w120 I_M_6w120 => ?_)
                            exact k _ (r_w I_M_6w120 (by omega) (by omega))
                        · intro M_19w119 e_M_19w119
                          have I_M_19w119 := r_sfi I_M_14w119 e_M_19w119 (by decide +kernel)
                          refine And.intro (fun c133 => ?_) (fun c133 => ?_)
                          · refine z_nn_of (s_1024_28 I_M_19w119.1) ?_
                            intro M_5w121 e_M_5w121
                            have I_M_5w121 := r_sfi I_M_19w119 e_M_5w121 (by decide +kernel)
                            exact k _ (r_w I_M_5w121 (by omega) (by omega))
                          · refine t_X8_acknowledge I_M_19w119 (fun M_6w121 I_M_6w121 => ?_)
                            exact k _ (r_w I_M_6w121 (by omega) (by omega))
                      · refine z_nn_of (s_1033_28 I_M_36w101.1) ?_
                        refine And.intro (vp_of (L := 400) (s_l30 I_M_36w101.1) (by (first | omega | (simp only [Int32.not_lt, Int32.not_le, Int32.lt_iff_toInt_lt, Int32.le_iff_toInt_le] at *; omega))) (by (first | omega | (simp only [Int32.not_lt, Int32.not_le, Int32.lt_iff_toInt_lt, Int32.le_iff_toInt_le] at *; omega)))) ?_
                        intro M_10w123 e_M_10w123
                        have I_M_10w123 := r_sai I_M_36w101 e_M_10w123 (by omega)
                        intro M_12w123 e_M_12w123
                        have I_M_12w123 := r_sfi I_M_10w123 e_M_12w123 (by decide +kernel)
                        intro M_14w123 e_M_14w123
                        have I_M_14w123 := r_sfi I_M_12w123 e_M_14w123 (by decide +kernel)
                        refine z_nn_of rfl ?_
                        refine And.intro (fun c134 => ?_) (fun c134 => ?_)
                        · refine And.intro (fun c135 => ?_) (fun c135 => ?_)
                          · refine z_nn_of (s_1024_28 I_M_14w123.1) ?_
                            intro M_5w124 e_M_5w124
                            have I_M_5w124 := r_sfi I_M_14w123 e_M_5w124 (by decide +kernel)
                            exact k _ (r_w I_M_5w124 (by omega) (by omega))
                          · refine t_X8_acknowledge I_M_14w123 (fun M_6w124 I_M_6w124 => ?_)
                            exact k _ (r_w I_M_6w124 (by omega) (by omega))
                        · intro M_19w123 e_M_19w123
                          have I_M_19w123 := r_sfi I_M_14w123 e_M_19w123 (by decide +kernel)
                          refine And.intro (fun c136 => ?_) (fun c136 => ?_)
                          · refine z_nn_of (s_1024_28 I_M_19w123.1) ?_
                            intro M_5w125 e_M_5w125
                            have I_M_5w125 := r_sfi I_M_19w123 e_M_5w125 (by decide +kernel)
                            exact k _ (r_w I_M_5w125 (by omega) (by omega))
                          · refine t_X8_acknowledge I_M_19w123 (fun M_6w125 I_M_6w125 => ?_)
                            exact k _ (r_w I_M_6w125 (by omega) (by omega))
                    · refine z_nn_of (s_1033_28 I_M_36w101.1) ?_
                      refine And.intro (vp_of (L := 400) (s_l30 I_M_36w101.1) (by (first | omega | (simp only [Int32.not_lt, Int32.not_le, Int32.lt_iff_toInt_lt, Int32.le_iff_toInt_le] at *; omega))) (by (first | omega | (simp only [Int32.not_lt, Int32.not_le, Int32.lt_iff_toInt_lt, Int32.le_iff_toInt_le] at *; omega)))) ?_
                      intro M_10w127 e_M_10w127
                      have I_M_10w127 := r_sai I_M_36w101 e_M_10w127 (by omega)
                      intro M_12w127 e_M_12w127
                      have I_M_12w127 := r_sfi I_M_10w127 e_M_12w127 (by decide +kernel)
                      intro M_14w127 e_M_14w127
                      have I_M_14w127 := r_sfi I_M_12w127 e_M_14w127 (by decide +kernel)
                      refine z_nn_of rfl ?_
                      refine And.intro (fun c137 => ?_) (fun c137 => ?_)
                      · refine And.intro (fun c138 => ?_) (fun c138 => ?_)
                        · refine z_nn_of (s_1024_28 I_M_14w127.1) ?_
                          intro M_5w128 e_M_5w128
                          have I_M_5w128 := r_sfi I_M_14w127 e_M_5w128 (by decide +kernel)
                          exact k _ (r_w I_M_5w128 (by omega) (by omega))
                        · refine t_X8_acknowledge I_M_14w127 (fun M_6w128 I_M_6w128 => ?_)
                          exact k _ (r_w I_M_6w128 (by omega) (by omega))
                      · intro M_19w127 e_M_19w127
                        have I_M_19w127 := r_sfi I_M_14w127 e_M_19w127 (by decide +kernel)
                        refine And.intro (fun c139 => ?_) (fun c139 => ?_)
                        · refine z_nn_of (s_1024_28 I_M_19w127.1) ?_
                          intro M_5w129 e_M_5w129
                          have I_M_5w129 := r_sfi I_M_19w127 e_M_5w129 (by decide +kernel)
                          exact k _ (r_w I_M_5w129 (by omega) (by omega))
                        · refine t_X8_acknowledge I_M_19w127 (fun M_6w129 I_M_6w129 => ?_)
                          exact k _ (r_w I_M_6w129 (by omega) (by omega))
                  · refine z_nn_of (s_1033_28 I_M_36w101.1) ?_
                    refine And.intro (vp_of (L := 400) (s_l30 I_M_36w101.1) (by (first | omega | (simp only [Int32.not_lt, Int32.not_le, Int32.lt_iff_toInt_lt, Int32.le_iff_toInt_le] at *; omega))) (by (first | omega | (simp only [Int32.not_lt, Int32.not_le, Int32.lt_iff_toInt_lt, Int32.le_iff_toInt_le] at *; omega)))) ?_
                    intro M_10w131 e_M_10w131
                    have I_M_10w131 := r_sai I_M_36w101 e_M_10w131 (by omega)
                    intro M_12w131 e_M_12w131
                    have I_M_12w131 := r_sfi I_M_10w131 e_M_12w131 (by decide +kernel)
                    intro M_14w131 e_M_14w131
                    have I_M_14w131 := r_sfi I_M_12w131 e_M_14w131 (by decide +kernel)
                    refine z_nn_of rfl ?_
                    refine And.intro (fun c140 => ?_) (fun c140 => ?_)
                    · refine And.intro (fun c141 => ?_) (fun c141 => ?_)
                      · refine z_nn_of (s_1024_28 I_M_14w131.1) ?_
                        intro M_5w132 e_M_5w132
                        have I_M_5w132 := r_sfi I_M_14w131 e_M_5w132 (by decide +kernel)
                        exact k _ (r_w I_M_5w132 (by omega) (by omega))
                      · refine t_X8_acknowledge I_M_14w131 (fun M_6w132 I_M_6w132 => ?_)
                        exact k _ (r_w I_M_6w132 (by omega) (by omega))
                    · intro M_19w131 e_M_19w131
                      have I_M_19w131 := r_sfi I_M_14w131 e_M_19w131 (by decide +kernel)
                      refine And.intro (fun c142 => ?_) (fun c142 => ?_)
                      · refine z_nn_of (s_1024_28 I_M_19w131.1) ?_
                        intro M_5w133 e_M_5w133
                        have I_M_5w133 := r_sfi I_M_19w131 e_M_5w133 (by decide +kernel)
                        exact k _ (r_w I_M_5w133 (by omega) (by omega))
                      · refine t_X8_acknowledge I_M_19w131 (fun M_6w133 I_M_6w133 => ?_)
                        exact k _ (r_w I_M_6w133 (by omega) (by omega))
                · refine z_nn_of (s_1025_28 I_M_36w101.1) ?_
                  refine And.intro (vp_of (L := 4) (s_l11 I_M_36w101.1) (y_str I_M_36w101 _).1 (y_str I_M_36w101 _).2) ?_
                  obtain ⟨st143, hs143, hx143⟩ := t_strAt (x := (z_fi M_36w101 771 q)) I_M_36w101.1 (y_str I_M_36w101 _).1 (y_str I_M_36w101 _).2
                  refine z_nn_of hs143 ?_
                  refine t_X9_arrive I_M_36w101 (by omega) (fun M_47w101 I_M_47w101 => ?_)
                  refine z_nn_of rfl ?_
                  refine And.intro (fun c144 => ?_) (fun c144 => ?_)
                  · refine And.intro (fun c145 => ?_) (fun c145 => ?_)
                    · refine And.intro (fun c146 => ?_) (fun c146 => ?_)
                      · refine z_nn_of (s_1033_28 I_M_47w101.1) ?_
                        refine And.intro (vp_of (L := 400) (s_l30 I_M_47w101.1) (by (first | omega | (simp only [Int32.not_lt, Int32.not_le, Int32.lt_iff_toInt_lt, Int32.le_iff_toInt_le] at *; omega))) (by (first | omega | (simp only [Int32.not_lt, Int32.not_le, Int32.lt_iff_toInt_lt, Int32.le_iff_toInt_le] at *; omega)))) ?_
                        intro M_10w135 e_M_10w135
                        have I_M_10w135 := r_sai I_M_47w101 e_M_10w135 (by omega)
                        intro M_12w135 e_M_12w135
                        have I_M_12w135 := r_sfi I_M_10w135 e_M_12w135 (by decide +kernel)
                        intro M_14w135 e_M_14w135
                        have I_M_14w135 := r_sfi I_M_12w135 e_M_14w135 (by decide +kernel)
                        refine z_nn_of rfl ?_
                        refine And.intro (fun c147 => ?_) (fun c147 => ?_)
                        · refine And.intro (fun c148 => ?_) (fun c148 => ?_)
                          · refine z_nn_of (s_1024_28 I_M_14w135.1) ?_
                            intro M_5w136 e_M_5w136
                            have I_M_5w136 := r_sfi I_M_14w135 e_M_5w136 (by decide +kernel)
                            exact k _ (r_w I_M_5w136 (by omega) (by omega))
                          · refine t_X8_acknowledge I_M_14w135 (fun M_6w136 I_M_6w136 => ?_)
                            exact k _ (r_w I_M_6w136 (by omega) (by omega))
                        · intro M_19w135 e_M_19w135
                          have I_M_19w135 := r_sfi I_M_14w135 e_M_19w135 (by decide +kernel)
                          refine And.intro (fun c149 => ?_) (fun c149 => ?_)
                          · refine z_nn_of (s_1024_28 I_M_19w135.1) ?_
                            intro M_5w137 e_M_5w137
                            have I_M_5w137 := r_sfi I_M_19w135 e_M_5w137 (by decide +kernel)
                            exact k _ (r_w I_M_5w137 (by omega) (by omega))
                          · refine t_X8_acknowledge I_M_19w135 (fun M_6w137 I_M_6w137 => ?_)
                            exact k _ (r_w I_M_6w137 (by omega) (by omega))
                      · refine z_nn_of (s_1033_28 I_M_47w101.1) ?_
                        refine And.intro (vp_of (L := 400) (s_l30 I_M_47w101.1) (by (first | omega | (simp only [Int32.not_lt, Int32.not_le, Int32.lt_iff_toInt_lt, Int32.le_iff_toInt_le] at *; omega))) (by (first | omega | (simp only [Int32.not_lt, Int32.not_le, Int32.lt_iff_toInt_lt, Int32.le_iff_toInt_le] at *; omega)))) ?_
                        intro M_10w139 e_M_10w139
                        have I_M_10w139 := r_sai I_M_47w101 e_M_10w139 (by omega)
                        intro M_12w139 e_M_12w139
                        have I_M_12w139 := r_sfi I_M_10w139 e_M_12w139 (by decide +kernel)
                        intro M_14w139 e_M_14w139
                        have I_M_14w139 := r_sfi I_M_12w139 e_M_14w139 (by decide +kernel)
                        refine z_nn_of rfl ?_
                        refine And.intro (fun c150 => ?_) (fun c150 => ?_)
                        · refine And.intro (fun c151 => ?_) (fun c151 => ?_)
                          · refine z_nn_of (s_1024_28 I_M_14w139.1) ?_
                            intro M_5w140 e_M_5w140
                            have I_M_5w140 := r_sfi I_M_14w139 e_M_5w140 (by decide +kernel)
                            exact k _ (r_w I_M_5w140 (by omega) (by omega))
                          · refine t_X8_acknowledge I_M_14w139 (fun M_6w140 I_M_6w140 => ?_)
                            exact k _ (r_w I_M_6w140 (by omega) (by omega))
                        · intro M_19w139 e_M_19w139
                          have I_M_19w139 := r_sfi I_M_14w139 e_M_19w139 (by decide +kernel)
                          refine And.intro (fun c152 => ?_) (fun c152 => ?_)
                          · refine z_nn_of (s_1024_28 I_M_19w139.1) ?_
                            intro M_5w141 e_M_5w141
                            have I_M_5w141 := r_sfi I_M_19w139 e_M_5w141 (by decide +kernel)
                            exact k _ (r_w I_M_5w141 (by omega) (by omega))
                          · refine t_X8_acknowledge I_M_19w139 (fun M_6w141 I_M_6w141 => ?_)
                            exact k _ (r_w I_M_6w141 (by omega) (by omega))
                    · refine z_nn_of (s_1033_28 I_M_47w101.1) ?_
                      refine And.intro (vp_of (L := 400) (s_l30 I_M_47w101.1) (by (first | omega | (simp only [Int32.not_lt, Int32.not_le, Int32.lt_iff_toInt_lt, Int32.le_iff_toInt_le] at *; omega))) (by (first | omega | (simp only [Int32.not_lt, Int32.not_le, Int32.lt_iff_toInt_lt, Int32.le_iff_toInt_le] at *; omega)))) ?_
                      intro M_10w143 e_M_10w143
                      have I_M_10w143 := r_sai I_M_47w101 e_M_10w143 (by omega)
                      intro M_12w143 e_M_12w143
                      have I_M_12w143 := r_sfi I_M_10w143 e_M_12w143 (by decide +kernel)
                      intro M_14w143 e_M_14w143
                      have I_M_14w143 := r_sfi I_M_12w143 e_M_14w143 (by decide +kernel)
                      refine z_nn_of rfl ?_
                      refine And.intro (fun c153 => ?_) (fun c153 => ?_)
                      · refine And.intro (fun c154 => ?_) (fun c154 => ?_)
                        · refine z_nn_of (s_1024_28 I_M_14w143.1) ?_
                          intro M_5w144 e_M_5w144
                          have I_M_5w144 := r_sfi I_M_14w143 e_M_5w144 (by decide +kernel)
                          exact k _ (r_w I_M_5w144 (by omega) (by omega))
                        · refine t_X8_acknowledge I_M_14w143 (fun M_6w144 I_M_6w144 => ?_)
                          exact k _ (r_w I_M_6w144 (by omega) (by omega))
                      · intro M_19w143 e_M_19w143
                        have I_M_19w143 := r_sfi I_M_14w143 e_M_19w143 (by decide +kernel)
                        refine And.intro (fun c155 => ?_) (fun c155 => ?_)
                        · refine z_nn_of (s_1024_28 I_M_19w143.1) ?_
                          intro M_5w145 e_M_5w145
                          have I_M_5w145 := r_sfi I_M_19w143 e_M_5w145 (by decide +kernel)
                          exact k _ (r_w I_M_5w145 (by omega) (by omega))
                        · refine t_X8_acknowledge I_M_19w143 (fun M_6w145 I_M_6w145 => ?_)
                          exact k _ (r_w I_M_6w145 (by omega) (by omega))
                  · refine z_nn_of (s_1033_28 I_M_47w101.1) ?_
                    refine And.intro (vp_of (L := 400) (s_l30 I_M_47w101.1) (by (first | omega | (simp only [Int32.not_lt, Int32.not_le, Int32.lt_iff_toInt_lt, Int32.le_iff_toInt_le] at *; omega))) (by (first | omega | (simp only [Int32.not_lt, Int32.not_le, Int32.lt_iff_toInt_lt, Int32.le_iff_toInt_le] at *; omega)))) ?_
                    intro M_10w147 e_M_10w147
                    have I_M_10w147 := r_sai I_M_47w101 e_M_10w147 (by omega)
                    intro M_12w147 e_M_12w147
                    have I_M_12w147 := r_sfi I_M_10w147 e_M_12w147 (by decide +kernel)
                    intro M_14w147 e_M_14w147
                    have I_M_14w147 := r_sfi I_M_12w147 e_M_14w147 (by decide +kernel)
                    refine z_nn_of rfl ?_
                    refine And.intro (fun c156 => ?_) (fun c156 => ?_)
                    · refine And.intro (fun c157 => ?_) (fun c157 => ?_)
                      · refine z_nn_of (s_1024_28 I_M_14w147.1) ?_
                        intro M_5w148 e_M_5w148
                        have I_M_5w148 := r_sfi I_M_14w147 e_M_5w148 (by decide +kernel)
                        exact k _ (r_w I_M_5w148 (by omega) (by omega))
                      · refine t_X8_acknowledge I_M_14w147 (fun M_6w148 I_M_6w148 => ?_)
                        exact k _ (r_w I_M_6w148 (by omega) (by omega))
                    · intro M_19w147 e_M_19w147
                      have I_M_19w147 := r_sfi I_M_14w147 e_M_19w147 (by decide +kernel)
                      refine And.intro (fun c158 => ?_) (fun c158 => ?_)
                      · refine z_nn_of (s_1024_28 I_M_19w147.1) ?_
                        intro M_5w149 e_M_5w149
                        have I_M_5w149 := r_sfi I_M_19w147 e_M_5w149 (by decide +kernel)
                        exact k _ (r_w I_M_5w149 (by omega) (by omega))
                      · refine t_X8_acknowledge I_M_19w147 (fun M_6w149 I_M_6w149 => ?_)
                        exact k _ (r_w I_M_6w149 (by omega) (by omega))
            · exact k _ (r_w I_M_32w101 (by omega) (by omega))
      · exact k _ (r_w I (by omega) (by omega))
theorem t_X8_hearWhenEstablished {n c s : Nat} {M0 : z_Mem} {a : Nat} {p1 : Option Nat} {M : z_Mem} {Post : z_Mem → Prop} (I : y_CI n (c + 5) (s + 26) M0 M) (ha : a = n + 28) (hp : ∃ q, p1 = some q) (k : ∀ M1, y_CI n c s M0 M1 → Post M1) : P_X8_hearWhenEstablished a p1 M Post := by
  have T0 : (0 : Int32).toInt = 0 := rfl; have T1 : (1 : Int32).toInt = 1 := rfl; have T4 : (4 : Int32).toInt = 4 := rfl; have T10 : (10 : Int32).toInt = 10 := rfl; have T30 : (30 : Int32).toInt = 30 := rfl; have T200 : (200 : Int32).toInt = 200 := rfl; have T400 : (400 : Int32).toInt = 400 := rfl
  subst ha; obtain ⟨q, rfl⟩ := hp
  refine z_nn_of rfl ?_
  refine And.intro (fun c1 => ?_) (fun c1 => ?_)
  · refine And.intro (r_room (w := 8) I) ?_
    intro M_16 e_M_16
    have I_M_16 := r_new (w := 8) I e_M_16
    intro M_1w1 e_M_1w1
    have I_M_1w1 := r_sfi I_M_16 e_M_1w1 (by decide +kernel)
    intro M_2w1 e_M_2w1
    have I_M_2w1 := r_sfi I_M_1w1 e_M_2w1 (by decide +kernel)
    refine z_nn_of (s_1024_28 I.1) ?_
    refine t_X5_putToClient I_M_2w1 rfl ⟨_, rfl⟩ (fun M_18 I_M_18 => ?_)
    exact k _ (r_w I_M_18 (by omega) (by omega))
  · refine And.intro (fun c2 => ?_) (fun c2 => ?_)
    · intro M_12 e_M_12
      have I_M_12 := r_sfi I e_M_12 (by decide +kernel)
      exact k _ (r_w I_M_12 (by omega) (by omega))
    · refine And.intro (fun hz => ?_) (fun a7 ha7 => ?_)
      · exact k _ (r_w I (by omega) (by omega))
      · intro M_9 e_M_9
        have I_M_9 := r_sfi I e_M_9 (by decide +kernel)
        refine t_X8_hearData I_M_9 rfl ⟨_, by rw [e_M_9, zq_fr_sfi]; exact ha7⟩ (fun M_11 I_M_11 => ?_)
        exact k _ (r_w I_M_11 (by omega) (by omega))
theorem t_X8_hear {n c s : Nat} {M0 : z_Mem} {a : Nat} {p1 : Option Nat} {M : z_Mem} {Post : z_Mem → Prop} (I : y_CI n (c + 5) (s + 26) M0 M) (ha : a = n + 28) (hp : ∃ q, p1 = some q) (k : ∀ M1, y_CI n c s M0 M1 → Post M1) : P_X8_hear a p1 M Post := by
  have T0 : (0 : Int32).toInt = 0 := rfl; have T1 : (1 : Int32).toInt = 1 := rfl; have T4 : (4 : Int32).toInt = 4 := rfl; have T10 : (10 : Int32).toInt = 10 := rfl; have T30 : (30 : Int32).toInt = 30 := rfl; have T200 : (200 : Int32).toInt = 200 := rfl; have T400 : (400 : Int32).toInt = 400 := rfl
  subst ha; obtain ⟨q, rfl⟩ := hp
  refine z_nn_of rfl ?_
  refine And.intro (fun hz => ?_) (fun a21 ha21 => ?_)
  · refine And.intro (fun c1 => ?_) (fun c1 => ?_)
    · exact k _ (r_w I (by omega) (by omega))
    · refine z_nn_of rfl ?_
      refine And.intro (fun c2 => ?_) (fun c2 => ?_)
      · refine t_X8_hearHello I rfl ⟨_, rfl⟩ (fun M_18w1 I_M_18w1 => ?_)
        exact k _ (r_w I_M_18w1 (by omega) (by omega))
      · refine And.intro (fun c3 => ?_) (fun c3 => ?_)
        · refine And.intro (r_room (w := 8) I) ?_
          intro M_14w1 e_M_14w1
          have I_M_14w1 := r_new (w := 8) I e_M_14w1
          intro M_1w2 e_M_1w2
          have I_M_1w2 := r_sfi I_M_14w1 e_M_1w2 (by decide +kernel)
          intro M_2w2 e_M_2w2
          have I_M_2w2 := r_sfi I_M_1w2 e_M_2w2 (by decide +kernel)
          refine z_nn_of (s_1024_28 I.1) ?_
          refine t_X5_putToClient I_M_2w2 rfl ⟨_, rfl⟩ (fun M_16w1 I_M_16w1 => ?_)
          exact k _ (r_w I_M_16w1 (by omega) (by omega))
        · refine And.intro (fun c4 => ?_) (fun c4 => ?_)
          · refine t_X8_hearWhenEstablished I rfl ⟨_, rfl⟩ (fun M_10w1 I_M_10w1 => ?_)
            exact k _ (r_w I_M_10w1 (by omega) (by omega))
          · exact k _ (r_w I (by omega) (by omega))
  · refine z_nn_of ha21 ?_
    intro M_24 e_M_24
    have I_M_24 := r_sfi I e_M_24 (by decide +kernel)
    refine And.intro (fun c5 => ?_) (fun c5 => ?_)
    · exact k _ (r_w I_M_24 (by omega) (by omega))
    · refine z_nn_of rfl ?_
      refine And.intro (fun c6 => ?_) (fun c6 => ?_)
      · refine t_X8_hearHello I_M_24 rfl ⟨_, rfl⟩ (fun M_18w3 I_M_18w3 => ?_)
        exact k _ (r_w I_M_18w3 (by omega) (by omega))
      · refine And.intro (fun c7 => ?_) (fun c7 => ?_)
        · refine And.intro (r_room (w := 8) I_M_24) ?_
          intro M_14w3 e_M_14w3
          have I_M_14w3 := r_new (w := 8) I_M_24 e_M_14w3
          intro M_1w4 e_M_1w4
          have I_M_1w4 := r_sfi I_M_14w3 e_M_1w4 (by decide +kernel)
          intro M_2w4 e_M_2w4
          have I_M_2w4 := r_sfi I_M_1w4 e_M_2w4 (by decide +kernel)
          refine z_nn_of (s_1024_28 I_M_24.1) ?_
          refine t_X5_putToClient I_M_2w4 rfl ⟨_, rfl⟩ (fun M_16w3 I_M_16w3 => ?_)
          exact k _ (r_w I_M_16w3 (by omega) (by omega))
        · refine And.intro (fun c8 => ?_) (fun c8 => ?_)
          · refine t_X8_hearWhenEstablished I_M_24 rfl ⟨_, rfl⟩ (fun M_10w3 I_M_10w3 => ?_)
            exact k _ (r_w I_M_10w3 (by omega) (by omega))
          · exact k _ (r_w I_M_24 (by omega) (by omega))
theorem t_X8_acknowledgeInTime {n c s : Nat} {M0 : z_Mem} {a : Nat} {M : z_Mem} {Post : z_Mem → Prop} (I : y_CI n (c + 5) (s + 26) M0 M) (ha : a = n + 28) (k : ∀ M1, y_CI n c s M0 M1 → Post M1) : P_X8_acknowledgeInTime a M Post := by
  have T0 : (0 : Int32).toInt = 0 := rfl; have T1 : (1 : Int32).toInt = 1 := rfl; have T4 : (4 : Int32).toInt = 4 := rfl; have T10 : (10 : Int32).toInt = 10 := rfl; have T30 : (30 : Int32).toInt = 30 := rfl; have T200 : (200 : Int32).toInt = 200 := rfl; have T400 : (400 : Int32).toInt = 400 := rfl
  subst ha
  refine z_nn_of (s_1024_28 I.1) ?_
  refine And.intro (fun c1 => ?_) (fun c1 => ?_)
  · refine t_X8_acknowledge I (fun M_6 I_M_6 => ?_)
    exact k _ (r_w I_M_6 (by omega) (by omega))
  · refine z_nn_of (s_1024_28 I.1) ?_
    refine And.intro (fun c2 => ?_) (fun c2 => ?_)
    · refine t_X8_acknowledge I (fun M_11 I_M_11 => ?_)
      exact k _ (r_w I_M_11 (by omega) (by omega))
    · exact k _ (r_w I (by omega) (by omega))
