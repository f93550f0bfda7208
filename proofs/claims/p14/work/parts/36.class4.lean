/-! ===== THE CLASS: the client ===== -/
theorem t_X1_packetAt {n c s : Nat} {M0 : z_Mem} {a : Nat} {p1 : Int32} {M : z_Mem} {Post : Option Nat → z_Mem → Prop} (I : y_CI n c s M0 M) (ha : a = n + 31) (k : ∀ r, Post r M) : P_X1_packetAt a p1 M Post := by
  have T0 : (0 : Int32).toInt = 0 := rfl; have T1 : (1 : Int32).toInt = 1 := rfl; have T4 : (4 : Int32).toInt = 4 := rfl; have T10 : (10 : Int32).toInt = 10 := rfl; have T30 : (30 : Int32).toInt = 30 := rfl; have T200 : (200 : Int32).toInt = 200 := rfl; have T400 : (400 : Int32).toInt = 400 := rfl
  subst ha
  refine And.intro (fun c1 => ?_) (fun c1 => ?_)
  · exact k _
  · refine And.intro (fun c2 => ?_) (fun c2 => ?_)
    · exact k _
    · refine And.intro (fun c3 => ?_) (fun c3 => ?_)
      · exact k _
      · refine z_nn_of (s_132_31 I.1) ?_
        refine And.intro (vp_of (L := 400) (s_l38 I.1) (by (first | omega | (simp only [Int32.not_lt, Int32.not_le, Int32.lt_iff_toInt_lt, Int32.le_iff_toInt_le] at *; omega))) (by (first | omega | (simp only [Int32.not_lt, Int32.not_le, Int32.lt_iff_toInt_lt, Int32.le_iff_toInt_le] at *; omega)))) ?_
        exact k _
theorem t_X1_leaveFlight {n c s : Nat} {M0 : z_Mem} {a : Nat} {p1 : Option Nat} {p2 : Int32} {M : z_Mem} {Post : z_Mem → Prop} (I : y_CI n c s M0 M) (ha : a = n + 31) (hp : ∃ q, p1 = some q) (k : ∀ M1, y_CI n c s M0 M1 → Post M1) : P_X1_leaveFlight a p1 p2 M Post := by
  have T0 : (0 : Int32).toInt = 0 := rfl; have T1 : (1 : Int32).toInt = 1 := rfl; have T4 : (4 : Int32).toInt = 4 := rfl; have T10 : (10 : Int32).toInt = 10 := rfl; have T30 : (30 : Int32).toInt = 30 := rfl; have T200 : (200 : Int32).toInt = 200 := rfl; have T400 : (400 : Int32).toInt = 400 := rfl
  subst ha; obtain ⟨q, rfl⟩ := hp
  refine z_nn_of rfl ?_
  intro M_11 e_M_11
  have I_M_11 := r_sfi I e_M_11 (by decide +kernel)
  refine And.intro (fun c1 => ?_) (fun c1 => ?_)
  · refine z_nn_of (s_130_31 I_M_11.1) ?_
    intro M_16 e_M_16
    have I_M_16 := r_sfi I_M_11 e_M_16 (by decide +kernel)
    refine And.intro (fun c2 => ?_) (fun c2 => ?_)
    · exact k _ (r_w I_M_16 (by omega) (by omega))
    · refine And.intro (fun c3 => ?_) (fun c3 => ?_)
      · exact k _ (r_w I_M_16 (by omega) (by omega))
      · refine And.intro (fun c4 => ?_) (fun c4 => ?_)
        · refine z_nn_of (s_129_31 I_M_16.1) ?_
          refine And.intro (vp_of (L := 4) (s_l11 I_M_16.1) (y_str I_M_16 _).1 (y_str I_M_16 _).2) ?_
          obtain ⟨st5, hs5, hx5⟩ := t_strAt (x := (z_fi M_16 771 q)) I_M_16.1 (y_str I_M_16 _).1 (y_str I_M_16 _).2
          refine z_nn_of hs5 ?_
          refine t_X9_acknowledge I_M_16 (by omega) (fun M_28 I_M_28 => ?_)
          refine z_nn_of rfl ?_
          refine z_nn_of (s_129_31 I_M_28.1) ?_
          refine And.intro (vp_of (L := 4) (s_l11 I_M_28.1) (y_str I_M_28 _).1 (y_str I_M_28 _).2) ?_
          obtain ⟨st6, hs6, hx6⟩ := t_strAt (x := (z_fi M_28 771 q)) I_M_28.1 (y_str I_M_28 _).1 (y_str I_M_28 _).2
          refine z_nn_of hs6 ?_
          refine t_X9_land I_M_28 (by omega) (fun M_8w2 I_M_8w2 => ?_)
          exact k _ (r_w I_M_8w2 (by omega) (by omega))
        · refine z_nn_of rfl ?_
          refine z_nn_of (s_129_31 I_M_16.1) ?_
          refine And.intro (vp_of (L := 4) (s_l11 I_M_16.1) (y_str I_M_16 _).1 (y_str I_M_16 _).2) ?_
          obtain ⟨st7, hs7, hx7⟩ := t_strAt (x := (z_fi M_16 771 q)) I_M_16.1 (y_str I_M_16 _).1 (y_str I_M_16 _).2
          refine z_nn_of hs7 ?_
          refine t_X9_land I_M_16 (by omega) (fun M_8w3 I_M_8w3 => ?_)
          exact k _ (r_w I_M_8w3 (by omega) (by omega))
  · refine z_nn_of (s_131_31 I_M_11.1) ?_
    intro M_16 e_M_16
    have I_M_16 := r_sfi I_M_11 e_M_16 (by decide +kernel)
    refine And.intro (fun c8 => ?_) (fun c8 => ?_)
    · exact k _ (r_w I_M_16 (by omega) (by omega))
    · refine And.intro (fun c9 => ?_) (fun c9 => ?_)
      · exact k _ (r_w I_M_16 (by omega) (by omega))
      · refine And.intro (fun c10 => ?_) (fun c10 => ?_)
        · refine z_nn_of (s_129_31 I_M_16.1) ?_
          refine And.intro (vp_of (L := 4) (s_l11 I_M_16.1) (y_str I_M_16 _).1 (y_str I_M_16 _).2) ?_
          obtain ⟨st11, hs11, hx11⟩ := t_strAt (x := (z_fi M_16 771 q)) I_M_16.1 (y_str I_M_16 _).1 (y_str I_M_16 _).2
          refine z_nn_of hs11 ?_
          refine t_X9_acknowledge I_M_16 (by omega) (fun M_28 I_M_28 => ?_)
          refine z_nn_of rfl ?_
          refine z_nn_of (s_129_31 I_M_28.1) ?_
          refine And.intro (vp_of (L := 4) (s_l11 I_M_28.1) (y_str I_M_28 _).1 (y_str I_M_28 _).2) ?_
          obtain ⟨st12, hs12, hx12⟩ := t_strAt (x := (z_fi M_28 771 q)) I_M_28.1 (y_str I_M_28 _).1 (y_str I_M_28 _).2
          refine z_nn_of hs12 ?_
          refine t_X9_land I_M_28 (by omega) (fun M_8w4 I_M_8w4 => ?_)
          exact k _ (r_w I_M_8w4 (by omega) (by omega))
        · refine z_nn_of rfl ?_
          refine z_nn_of (s_129_31 I_M_16.1) ?_
          refine And.intro (vp_of (L := 4) (s_l11 I_M_16.1) (y_str I_M_16 _).1 (y_str I_M_16 _).2) ?_
          obtain ⟨st13, hs13, hx13⟩ := t_strAt (x := (z_fi M_16 771 q)) I_M_16.1 (y_str I_M_16 _).1 (y_str I_M_16 _).2
          refine z_nn_of hs13 ?_
          refine t_X9_land I_M_16 (by omega) (fun M_8w5 I_M_8w5 => ?_)
          exact k _ (r_w I_M_8w5 (by omega) (by omega))
