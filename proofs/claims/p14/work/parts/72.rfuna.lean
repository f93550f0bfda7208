/-! ===== THE REFERENCE as functions on its cells, 1 ===== -/
set_option maxRecDepth 100000 in
noncomputable def qF_in (p1 : Int32) (p2 : Int32) (p3 : Int32) (r : q_R) : (Int32 × q_R) := (if (p1 < p2) then (0, r) else (if (p3 < p1) then (0, r) else (1, r)))
set_option maxRecDepth 100000 in
theorem qE_in (p1 : Int32) (p2 : Int32) (p3 : Int32) (r : q_R) : qF_in p1 p2 p3 r = (if (p1 < p2) then (0, r) else (if (p3 < p1) then (0, r) else (1, r))) := rfl
set_option maxRecDepth 100000 in
set_option maxHeartbeats 4000000 in
theorem qS_in {n : Nat} {Q Post : Int32 → z_Mem → Prop} {p1 : Int32} {p2 : Int32} {p3 : Int32} {M : z_Mem} {r : q_R} (S : y_S n M) (R : q_rep n M r) (H : P_X12_in p1 p2 p3 M Q) (K : ∀ x M1 r1, Q x M1 → y_S n M1 → q_rep n M1 r1 → qF_in p1 p2 p3 r = (x, r1) → Post x M1) : P_X12_in p1 p2 p3 M Post := by
  have hF := qE_in p1 p2 p3 r
  unfold P_X12_in at H ⊢
  refine And.intro (fun c1 => ?_) (fun c1 => ?_)
  · replace H := H.1 c1
    replace hF := hF.trans (if_pos c1)
    exact K _ _ _ H S R hF
  · replace H := H.2 c1
    replace hF := hF.trans (if_neg c1)
    refine And.intro (fun c2 => ?_) (fun c2 => ?_)
    · replace H := H.1 c2
      replace hF := hF.trans (if_pos c2)
      exact K _ _ _ H S R hF
    · replace H := H.2 c2
      replace hF := hF.trans (if_neg c2)
      exact K _ _ _ H S R hF
set_option maxRecDepth 100000 in
noncomputable def qF_goes (p1 : Int32) (p2 : Int32) (p3 : Int32) (r : q_R) : (Int32 × q_R) := (if (p1 = 0) then (q_st (uf r 1630 1) (fun r1 => (if ((r1.1 1630) = 0) then (1, r1) else (0, r1)))) else (if (p2 = 0) then (q_st (uf r 1630 2) (fun r2 => (if ((r2.1 1630) = 0) then (1, r2) else (0, r2)))) else (if (p3 = 0) then (q_st (uf r 1630 3) (fun r3 => (if ((r3.1 1630) = 0) then (1, r3) else (0, r3)))) else (q_st (uf r 1630 0) (fun r4 => (if ((r4.1 1630) = 0) then (1, r4) else (0, r4)))))))
set_option maxRecDepth 100000 in
theorem qE_goes (p1 : Int32) (p2 : Int32) (p3 : Int32) (r : q_R) : qF_goes p1 p2 p3 r = (if (p1 = 0) then (q_st (uf r 1630 1) (fun r1 => (if ((r1.1 1630) = 0) then (1, r1) else (0, r1)))) else (if (p2 = 0) then (q_st (uf r 1630 2) (fun r2 => (if ((r2.1 1630) = 0) then (1, r2) else (0, r2)))) else (if (p3 = 0) then (q_st (uf r 1630 3) (fun r3 => (if ((r3.1 1630) = 0) then (1, r3) else (0, r3)))) else (q_st (uf r 1630 0) (fun r4 => (if ((r4.1 1630) = 0) then (1, r4) else (0, r4))))))) := rfl
set_option maxRecDepth 100000 in
set_option maxHeartbeats 4000000 in
theorem qS_goes {n : Nat} {Q Post : Int32 → z_Mem → Prop} {p1 : Int32} {p2 : Int32} {p3 : Int32} {M : z_Mem} {r : q_R} (S : y_S n M) (R : q_rep n M r) (H : P_X12_goes (n + 40) p1 p2 p3 M Q) (K : ∀ x M1 r1, Q x M1 → y_S n M1 → q_rep n M1 r1 → qF_goes p1 p2 p3 r = (x, r1) → Post x M1) : P_X12_goes (n + 40) p1 p2 p3 M Post := by
  have hF := qE_goes p1 p2 p3 r
  unfold P_X12_goes at H ⊢
  refine And.intro (fun c1 => ?_) (fun c1 => ?_)
  · replace H := H.1 c1
    replace hF := hF.trans (if_pos c1)
    intro M_13 e_M_13
    replace H := H M_13 e_M_13
    have S_M_13 : y_S n M_13 := by rw [e_M_13]; exact S_sfi S
    have R_M_13 := rep_sfi R e_M_13
    obtain ⟨r_M_13, h_M_13⟩ := q_gen R_M_13
    replace hF := hF.trans (q_ste h_M_13.2)
    replace R_M_13 := h_M_13.1
    try simp only [qf_1630 R_M_13] at H ⊢
    refine And.intro (fun c2 => ?_) (fun c2 => ?_)
    · replace H := H.1 c2
      replace hF := hF.trans (if_pos c2)
      exact K _ _ _ H S_M_13 R_M_13 hF
    · replace H := H.2 c2
      replace hF := hF.trans (if_neg c2)
      exact K _ _ _ H S_M_13 R_M_13 hF
  · replace H := H.2 c1
    replace hF := hF.trans (if_neg c1)
    refine And.intro (fun c3 => ?_) (fun c3 => ?_)
    · replace H := H.1 c3
      replace hF := hF.trans (if_pos c3)
      intro M_10 e_M_10
      replace H := H M_10 e_M_10
      have S_M_10 : y_S n M_10 := by rw [e_M_10]; exact S_sfi S
      have R_M_10 := rep_sfi R e_M_10
      obtain ⟨r_M_10, h_M_10⟩ := q_gen R_M_10
      replace hF := hF.trans (q_ste h_M_10.2)
      replace R_M_10 := h_M_10.1
      try simp only [qf_1630 R_M_10] at H ⊢
      refine And.intro (fun c4 => ?_) (fun c4 => ?_)
      · replace H := H.1 c4
        replace hF := hF.trans (if_pos c4)
        exact K _ _ _ H S_M_10 R_M_10 hF
      · replace H := H.2 c4
        replace hF := hF.trans (if_neg c4)
        exact K _ _ _ H S_M_10 R_M_10 hF
    · replace H := H.2 c3
      replace hF := hF.trans (if_neg c3)
      refine And.intro (fun c5 => ?_) (fun c5 => ?_)
      · replace H := H.1 c5
        replace hF := hF.trans (if_pos c5)
        intro M_4 e_M_4
        replace H := H M_4 e_M_4
        have S_M_4 : y_S n M_4 := by rw [e_M_4]; exact S_sfi S
        have R_M_4 := rep_sfi R e_M_4
        obtain ⟨r_M_4, h_M_4⟩ := q_gen R_M_4
        replace hF := hF.trans (q_ste h_M_4.2)
        replace R_M_4 := h_M_4.1
        try simp only [qf_1630 R_M_4] at H ⊢
        refine And.intro (fun c6 => ?_) (fun c6 => ?_)
        · replace H := H.1 c6
          replace hF := hF.trans (if_pos c6)
          exact K _ _ _ H S_M_4 R_M_4 hF
        · replace H := H.2 c6
          replace hF := hF.trans (if_neg c6)
          exact K _ _ _ H S_M_4 R_M_4 hF
      · replace H := H.2 c5
        replace hF := hF.trans (if_neg c5)
        intro M_7 e_M_7
        replace H := H M_7 e_M_7
        have S_M_7 : y_S n M_7 := by rw [e_M_7]; exact S_sfi S
        have R_M_7 := rep_sfi R e_M_7
        obtain ⟨r_M_7, h_M_7⟩ := q_gen R_M_7
        replace hF := hF.trans (q_ste h_M_7.2)
        replace R_M_7 := h_M_7.1
        try simp only [qf_1630 R_M_7] at H ⊢
        refine And.intro (fun c7 => ?_) (fun c7 => ?_)
        · replace H := H.1 c7
          replace hF := hF.trans (if_pos c7)
          exact K _ _ _ H S_M_7 R_M_7 hF
        · replace H := H.2 c7
          replace hF := hF.trans (if_neg c7)
          exact K _ _ _ H S_M_7 R_M_7 hF
set_option maxRecDepth 100000 in
noncomputable def qF_isPath (p1 : Int32) (r : q_R) : (Int32 × q_R) := (q_st2 (qF_in p1 0 1 r) (fun (x_1 : Int32) r1 => (x_1, r1)))
set_option maxRecDepth 100000 in
theorem qE_isPath (p1 : Int32) (r : q_R) : qF_isPath p1 r = (q_st2 (qF_in p1 0 1 r) (fun (x_1 : Int32) r1 => (x_1, r1))) := rfl
set_option maxRecDepth 100000 in
set_option maxHeartbeats 4000000 in
theorem qS_isPath {n : Nat} {Q Post : Int32 → z_Mem → Prop} {p1 : Int32} {M : z_Mem} {r : q_R} (S : y_S n M) (R : q_rep n M r) (H : P_X12_isPath p1 M Q) (K : ∀ x M1 r1, Q x M1 → y_S n M1 → q_rep n M1 r1 → qF_isPath p1 r = (x, r1) → Post x M1) : P_X12_isPath p1 M Post := by
  have hF := qE_isPath p1 r
  unfold P_X12_isPath at H ⊢
  refine qS_in S R H (fun x_1 M_1 r_M_1 H S_M_1 R_M_1 u => ?_)
  replace hF := hF.trans (q_ste2 u)
  exact K _ _ _ H S_M_1 R_M_1 hF
set_option maxRecDepth 100000 in
noncomputable def qF_isStream (p1 : Int32) (r : q_R) : (Int32 × q_R) := (q_st2 (qF_in p1 0 3 r) (fun (x_1 : Int32) r1 => (x_1, r1)))
set_option maxRecDepth 100000 in
theorem qE_isStream (p1 : Int32) (r : q_R) : qF_isStream p1 r = (q_st2 (qF_in p1 0 3 r) (fun (x_1 : Int32) r1 => (x_1, r1))) := rfl
set_option maxRecDepth 100000 in
set_option maxHeartbeats 4000000 in
theorem qS_isStream {n : Nat} {Q Post : Int32 → z_Mem → Prop} {p1 : Int32} {M : z_Mem} {r : q_R} (S : y_S n M) (R : q_rep n M r) (H : P_X12_isStream p1 M Q) (K : ∀ x M1 r1, Q x M1 → y_S n M1 → q_rep n M1 r1 → qF_isStream p1 r = (x, r1) → Post x M1) : P_X12_isStream p1 M Post := by
  have hF := qE_isStream p1 r
  unfold P_X12_isStream at H ⊢
  refine qS_in S R H (fun x_1 M_1 r_M_1 H S_M_1 R_M_1 u => ?_)
  replace hF := hF.trans (q_ste2 u)
  exact K _ _ _ H S_M_1 R_M_1 hF
set_option maxRecDepth 100000 in
noncomputable def qF_max (p1 : Int32) (p2 : Int32) (r : q_R) : (Int32 × q_R) := (if (p1 ≤ p2) then (p2, r) else (p1, r))
set_option maxRecDepth 100000 in
theorem qE_max (p1 : Int32) (p2 : Int32) (r : q_R) : qF_max p1 p2 r = (if (p1 ≤ p2) then (p2, r) else (p1, r)) := rfl
set_option maxRecDepth 100000 in
set_option maxHeartbeats 4000000 in
theorem qS_max {n : Nat} {Q Post : Int32 → z_Mem → Prop} {p1 : Int32} {p2 : Int32} {M : z_Mem} {r : q_R} (S : y_S n M) (R : q_rep n M r) (H : P_X12_max p1 p2 M Q) (K : ∀ x M1 r1, Q x M1 → y_S n M1 → q_rep n M1 r1 → qF_max p1 p2 r = (x, r1) → Post x M1) : P_X12_max p1 p2 M Post := by
  have hF := qE_max p1 p2 r
  unfold P_X12_max at H ⊢
  refine And.intro (fun c1 => ?_) (fun c1 => ?_)
  · replace H := H.1 c1
    replace hF := hF.trans (if_pos c1)
    exact K _ _ _ H S R hF
  · replace H := H.2 c1
    replace hF := hF.trans (if_neg c1)
    exact K _ _ _ H S R hF
set_option maxRecDepth 100000 in
noncomputable def qF_puts_111 (x1 : Int32) (x2 : Int32) (x3 : Int32) (r : q_R) : q_R := (q_st (ua r 52 ((r.1 1551) : Int32).toNatClampNeg x2) (fun r1 => (q_st (ua r1 53 ((r1.1 1551) : Int32).toNatClampNeg x3) (fun r2 => (q_st (ua r2 54 ((r2.1 1551) : Int32).toNatClampNeg x1) (fun r3 => (q_st (ua r3 50 (((30 * x1) + (r3.2 51 (x1 : Int32).toNatClampNeg)) : Int32).toNatClampNeg (r3.1 1551)) (fun r4 => (q_st (ua r4 51 (x1 : Int32).toNatClampNeg ((r4.2 51 (x1 : Int32).toNatClampNeg) + 1)) (fun r5 => (q_st (uf r5 1551 ((r5.1 1551) + 1)) (fun r6 => r6))))))))))))
set_option maxRecDepth 100000 in
theorem qE_puts_111 (x1 : Int32) (x2 : Int32) (x3 : Int32) (r : q_R) : qF_puts_111 x1 x2 x3 r = (q_st (ua r 52 ((r.1 1551) : Int32).toNatClampNeg x2) (fun r1 => (q_st (ua r1 53 ((r1.1 1551) : Int32).toNatClampNeg x3) (fun r2 => (q_st (ua r2 54 ((r2.1 1551) : Int32).toNatClampNeg x1) (fun r3 => (q_st (ua r3 50 (((30 * x1) + (r3.2 51 (x1 : Int32).toNatClampNeg)) : Int32).toNatClampNeg (r3.1 1551)) (fun r4 => (q_st (ua r4 51 (x1 : Int32).toNatClampNeg ((r4.2 51 (x1 : Int32).toNatClampNeg) + 1)) (fun r5 => (q_st (uf r5 1551 ((r5.1 1551) + 1)) (fun r6 => r6)))))))))))) := rfl
set_option maxRecDepth 100000 in
set_option maxHeartbeats 4000000 in
theorem qS_puts_111 {n : Nat} {Q Post : z_Mem → Prop} {x1 : Int32} {x2 : Int32} {x3 : Int32} {M : z_Mem} {r : q_R} (S : y_S n M) (R : q_rep n M r) (H : P_X12_puts_111 (n + 40) Q x1 x2 x3 M) (K : ∀ M1 r1, Q M1 → y_S n M1 → q_rep n M1 r1 → qF_puts_111 x1 x2 x3 r = r1 → Post M1) : P_X12_puts_111 (n + 40) Post x1 x2 x3 M := by
  have hF := qE_puts_111 x1 x2 x3 r
  unfold P_X12_puts_111 at H ⊢
  replace H := z_nne (s_1548_40 S) H
  refine z_nn_of (s_1548_40 S) ?_
  refine And.intro H.1 ?_
  replace H := H.2
  try simp only [qf_1551 R] at H ⊢
  intro M_5 e_M_5
  replace H := H M_5 e_M_5
  have S_M_5 : y_S n M_5 := by rw [e_M_5]; exact S_sai S
  have R_M_5 := rep_sai R (by decide) (by decide) e_M_5
  obtain ⟨r_M_5, h_M_5⟩ := q_gen R_M_5
  replace hF := hF.trans (q_ste h_M_5.2)
  replace R_M_5 := h_M_5.1
  replace H := z_nne (s_1549_40 S_M_5) H
  refine z_nn_of (s_1549_40 S_M_5) ?_
  refine And.intro H.1 ?_
  replace H := H.2
  try simp only [qf_1551 R_M_5] at H ⊢
  intro M_10 e_M_10
  replace H := H M_10 e_M_10
  have S_M_10 : y_S n M_10 := by rw [e_M_10]; exact S_sai S_M_5
  have R_M_10 := rep_sai R_M_5 (by decide) (by decide) e_M_10
  obtain ⟨r_M_10, h_M_10⟩ := q_gen R_M_10
  replace hF := hF.trans (q_ste h_M_10.2)
  replace R_M_10 := h_M_10.1
  replace H := z_nne (s_1550_40 S_M_10) H
  refine z_nn_of (s_1550_40 S_M_10) ?_
  refine And.intro H.1 ?_
  replace H := H.2
  try simp only [qf_1551 R_M_10] at H ⊢
  intro M_15 e_M_15
  replace H := H M_15 e_M_15
  have S_M_15 : y_S n M_15 := by rw [e_M_15]; exact S_sai S_M_10
  have R_M_15 := rep_sai R_M_10 (by decide) (by decide) e_M_15
  obtain ⟨r_M_15, h_M_15⟩ := q_gen R_M_15
  replace hF := hF.trans (q_ste h_M_15.2)
  replace R_M_15 := h_M_15.1
  replace H := z_nne (s_1547_40 S_M_15) H
  refine z_nn_of (s_1547_40 S_M_15) ?_
  refine And.intro H.1 ?_
  replace H := H.2
  replace H := z_nne (s_1546_40 S_M_15) H
  refine z_nn_of (s_1546_40 S_M_15) ?_
  refine And.intro H.1 ?_
  replace H := H.2
  try simp only [qa_51 R_M_15, qf_1551 R_M_15] at H ⊢
  intro M_23 e_M_23
  replace H := H M_23 e_M_23
  have S_M_23 : y_S n M_23 := by rw [e_M_23]; exact S_sai S_M_15
  have R_M_23 := rep_sai R_M_15 (by decide) (by decide) e_M_23
  obtain ⟨r_M_23, h_M_23⟩ := q_gen R_M_23
  replace hF := hF.trans (q_ste h_M_23.2)
  replace R_M_23 := h_M_23.1
  replace H := z_nne (s_1547_40 S_M_23) H
  refine z_nn_of (s_1547_40 S_M_23) ?_
  refine And.intro H.1 ?_
  replace H := H.2
  refine And.intro H.1 ?_
  replace H := H.2
  try simp only [qa_51 R_M_23] at H ⊢
  intro M_28 e_M_28
  replace H := H M_28 e_M_28
  have S_M_28 : y_S n M_28 := by rw [e_M_28]; exact S_sai S_M_23
  have R_M_28 := rep_sai R_M_23 (by decide) (by decide) e_M_28
  obtain ⟨r_M_28, h_M_28⟩ := q_gen R_M_28
  replace hF := hF.trans (q_ste h_M_28.2)
  replace R_M_28 := h_M_28.1
  try simp only [qf_1551 R_M_28] at H ⊢
  intro M_30 e_M_30
  replace H := H M_30 e_M_30
  have S_M_30 : y_S n M_30 := by rw [e_M_30]; exact S_sfi S_M_28
  have R_M_30 := rep_sfi R_M_28 e_M_30
  obtain ⟨r_M_30, h_M_30⟩ := q_gen R_M_30
  replace hF := hF.trans (q_ste h_M_30.2)
  replace R_M_30 := h_M_30.1
  exact K _ _ H S_M_30 R_M_30 hF
set_option maxRecDepth 100000 in
noncomputable def qF_puts_110 (x1 : Int32) (x2 : Int32) (x3 : Int32) (t0 : Nat) (t1 : Int32) (t2 : Int32) (r : q_R) : q_R := (q_st (ua r t0 (t1 : Int32).toNatClampNeg t2) (fun r1 => (qF_puts_111 x1 x2 x3 r1)))
set_option maxRecDepth 100000 in
theorem qE_puts_110 (x1 : Int32) (x2 : Int32) (x3 : Int32) (t0 : Nat) (t1 : Int32) (t2 : Int32) (r : q_R) : qF_puts_110 x1 x2 x3 t0 t1 t2 r = (q_st (ua r t0 (t1 : Int32).toNatClampNeg t2) (fun r1 => (qF_puts_111 x1 x2 x3 r1))) := rfl
set_option maxRecDepth 100000 in
set_option maxHeartbeats 4000000 in
theorem qS_puts_110 {n : Nat} {Q Post : z_Mem → Prop} {x1 : Int32} {x2 : Int32} {x3 : Int32} {t1 : Int32} {t2 : Int32} {t0 : Nat} {o_t0 : Option Nat} {M : z_Mem} {r : q_R} (h0_t0 : 41 ≤ t0) (h1_t0 : t0 < 107) (ho_t0 : o_t0 = some (n + t0)) (S : y_S n M) (R : q_rep n M r) (H : P_X12_puts_110 (n + 40) Q x1 x2 x3 o_t0 t1 t2 M) (K : ∀ M1 r1, Q M1 → y_S n M1 → q_rep n M1 r1 → qF_puts_110 x1 x2 x3 t0 t1 t2 r = r1 → Post M1) : P_X12_puts_110 (n + 40) Post x1 x2 x3 o_t0 t1 t2 M := by
  subst ho_t0
  have hF := qE_puts_110 x1 x2 x3 t0 t1 t2 r
  unfold P_X12_puts_110 at H ⊢
  replace H := z_nne rfl H
  refine z_nn_of rfl ?_
  refine And.intro H.1 ?_
  replace H := H.2
  intro M_33 e_M_33
  replace H := H M_33 e_M_33
  have S_M_33 : y_S n M_33 := by rw [e_M_33]; exact S_sai S
  have R_M_33 := rep_sai R h0_t0 h1_t0 e_M_33
  obtain ⟨r_M_33, h_M_33⟩ := q_gen R_M_33
  replace hF := hF.trans (q_ste h_M_33.2)
  replace R_M_33 := h_M_33.1
  exact qS_puts_111 S_M_33 R_M_33 H (fun M1 r1 q1 q2 q3 u => K M1 r1 q1 q2 q3 (hF.trans u))
set_option maxRecDepth 100000 in
noncomputable def qF_puts_60 (x1 : Int32) (x2 : Int32) (x3 : Int32) (t0 : Int32) (r : q_R) : q_R := (if (t0 = 0) then (if (x2 = 2) then (if ((r.2 51 (x1 : Int32).toNatClampNeg) < (r.2 44 (x1 : Int32).toNatClampNeg)) then (qF_puts_110 x1 x2 x3 81 x3 0 r) else (qF_puts_110 x1 x2 x3 81 x3 1 r)) else (qF_puts_111 x1 x2 x3 r)) else (if (x2 = 2) then (q_st (ua r 77 (x3 : Int32).toNatClampNeg 3) (fun r1 => r1)) else r))
set_option maxRecDepth 100000 in
theorem qE_puts_60 (x1 : Int32) (x2 : Int32) (x3 : Int32) (t0 : Int32) (r : q_R) : qF_puts_60 x1 x2 x3 t0 r = (if (t0 = 0) then (if (x2 = 2) then (if ((r.2 51 (x1 : Int32).toNatClampNeg) < (r.2 44 (x1 : Int32).toNatClampNeg)) then (qF_puts_110 x1 x2 x3 81 x3 0 r) else (qF_puts_110 x1 x2 x3 81 x3 1 r)) else (qF_puts_111 x1 x2 x3 r)) else (if (x2 = 2) then (q_st (ua r 77 (x3 : Int32).toNatClampNeg 3) (fun r1 => r1)) else r)) := rfl
set_option maxRecDepth 100000 in
set_option maxHeartbeats 4000000 in
theorem qS_puts_60 {n : Nat} {Q Post : z_Mem → Prop} {x1 : Int32} {x2 : Int32} {x3 : Int32} {t0 : Int32} {M : z_Mem} {r : q_R} (S : y_S n M) (R : q_rep n M r) (H : P_X12_puts_60 (n + 40) Q x1 x2 x3 t0 M) (K : ∀ M1 r1, Q M1 → y_S n M1 → q_rep n M1 r1 → qF_puts_60 x1 x2 x3 t0 r = r1 → Post M1) : P_X12_puts_60 (n + 40) Post x1 x2 x3 t0 M := by
  have hF := qE_puts_60 x1 x2 x3 t0 r
  unfold P_X12_puts_60 at H ⊢
  refine And.intro (fun c1 => ?_) (fun c1 => ?_)
  · replace H := H.1 c1
    replace hF := hF.trans (if_pos c1)
    refine And.intro (fun c2 => ?_) (fun c2 => ?_)
    · replace H := H.1 c2
      replace hF := hF.trans (if_pos c2)
      replace H := z_nne (s_1547_40 S) H
      refine z_nn_of (s_1547_40 S) ?_
      refine And.intro H.1 ?_
      replace H := H.2
      replace H := z_nne (s_1540_40 S) H
      refine z_nn_of (s_1540_40 S) ?_
      refine And.intro H.1 ?_
      replace H := H.2
      try simp only [qa_44 R, qa_51 R] at H ⊢
      refine And.intro (fun c3 => ?_) (fun c3 => ?_)
      · replace H := H.1 c3
        replace hF := hF.trans (if_pos c3)
        exact qS_puts_110 (by decide) (by decide) (s_1603_40 S) S R H (fun M1 r1 q1 q2 q3 u => K M1 r1 q1 q2 q3 (hF.trans u))
      · replace H := H.2 c3
        replace hF := hF.trans (if_neg c3)
        exact qS_puts_110 (by decide) (by decide) (s_1603_40 S) S R H (fun M1 r1 q1 q2 q3 u => K M1 r1 q1 q2 q3 (hF.trans u))
    · replace H := H.2 c2
      replace hF := hF.trans (if_neg c2)
      exact qS_puts_111 S R H (fun M1 r1 q1 q2 q3 u => K M1 r1 q1 q2 q3 (hF.trans u))
  · replace H := H.2 c1
    replace hF := hF.trans (if_neg c1)
    refine And.intro (fun c4 => ?_) (fun c4 => ?_)
    · replace H := H.1 c4
      replace hF := hF.trans (if_pos c4)
      replace H := z_nne (s_1599_40 S) H
      refine z_nn_of (s_1599_40 S) ?_
      refine And.intro H.1 ?_
      replace H := H.2
      intro M_48 e_M_48
      replace H := H M_48 e_M_48
      have S_M_48 : y_S n M_48 := by rw [e_M_48]; exact S_sai S
      have R_M_48 := rep_sai R (by decide) (by decide) e_M_48
      obtain ⟨r_M_48, h_M_48⟩ := q_gen R_M_48
      replace hF := hF.trans (q_ste h_M_48.2)
      replace R_M_48 := h_M_48.1
      exact K _ _ H S_M_48 R_M_48 hF
    · replace H := H.2 c4
      replace hF := hF.trans (if_neg c4)
      exact K _ _ H S R hF
set_option maxRecDepth 100000 in
noncomputable def qF_puts_55 (x1 : Int32) (x2 : Int32) (x3 : Int32) (r : q_R) : q_R := (qF_puts_60 x1 x2 x3 1 r)
set_option maxRecDepth 100000 in
theorem qE_puts_55 (x1 : Int32) (x2 : Int32) (x3 : Int32) (r : q_R) : qF_puts_55 x1 x2 x3 r = (qF_puts_60 x1 x2 x3 1 r) := rfl
set_option maxRecDepth 100000 in
set_option maxHeartbeats 4000000 in
theorem qS_puts_55 {n : Nat} {Q Post : z_Mem → Prop} {x1 : Int32} {x2 : Int32} {x3 : Int32} {M : z_Mem} {r : q_R} (S : y_S n M) (R : q_rep n M r) (H : P_X12_puts_55 (n + 40) Q x1 x2 x3 M) (K : ∀ M1 r1, Q M1 → y_S n M1 → q_rep n M1 r1 → qF_puts_55 x1 x2 x3 r = r1 → Post M1) : P_X12_puts_55 (n + 40) Post x1 x2 x3 M := by
  have hF := qE_puts_55 x1 x2 x3 r
  unfold P_X12_puts_55 at H ⊢
  exact qS_puts_60 S R H (fun M1 r1 q1 q2 q3 u => K M1 r1 q1 q2 q3 (hF.trans u))
set_option maxRecDepth 100000 in
noncomputable def qF_puts_35 (x1 : Int32) (x2 : Int32) (x3 : Int32) (x4 : Int32) (r : q_R) : q_R := (if (x4 = 0) then (if ((r.2 51 (x1 : Int32).toNatClampNeg) < (r.2 43 (x1 : Int32).toNatClampNeg)) then (qF_puts_60 x1 x2 x3 0 r) else (qF_puts_55 x1 x2 x3 r)) else (qF_puts_55 x1 x2 x3 r))
set_option maxRecDepth 100000 in
theorem qE_puts_35 (x1 : Int32) (x2 : Int32) (x3 : Int32) (x4 : Int32) (r : q_R) : qF_puts_35 x1 x2 x3 x4 r = (if (x4 = 0) then (if ((r.2 51 (x1 : Int32).toNatClampNeg) < (r.2 43 (x1 : Int32).toNatClampNeg)) then (qF_puts_60 x1 x2 x3 0 r) else (qF_puts_55 x1 x2 x3 r)) else (qF_puts_55 x1 x2 x3 r)) := rfl
set_option maxRecDepth 100000 in
set_option maxHeartbeats 4000000 in
theorem qS_puts_35 {n : Nat} {Q Post : z_Mem → Prop} {x1 : Int32} {x2 : Int32} {x3 : Int32} {x4 : Int32} {M : z_Mem} {r : q_R} (S : y_S n M) (R : q_rep n M r) (H : P_X12_puts_35 (n + 40) Q x1 x2 x3 x4 M) (K : ∀ M1 r1, Q M1 → y_S n M1 → q_rep n M1 r1 → qF_puts_35 x1 x2 x3 x4 r = r1 → Post M1) : P_X12_puts_35 (n + 40) Post x1 x2 x3 x4 M := by
  have hF := qE_puts_35 x1 x2 x3 x4 r
  unfold P_X12_puts_35 at H ⊢
  refine And.intro (fun c1 => ?_) (fun c1 => ?_)
  · replace H := H.1 c1
    replace hF := hF.trans (if_pos c1)
    replace H := z_nne (s_1547_40 S) H
    refine z_nn_of (s_1547_40 S) ?_
    refine And.intro H.1 ?_
    replace H := H.2
    replace H := z_nne (s_1539_40 S) H
    refine z_nn_of (s_1539_40 S) ?_
    refine And.intro H.1 ?_
    replace H := H.2
    try simp only [qa_43 R, qa_51 R] at H ⊢
    refine And.intro (fun c2 => ?_) (fun c2 => ?_)
    · replace H := H.1 c2
      replace hF := hF.trans (if_pos c2)
      exact qS_puts_60 S R H (fun M1 r1 q1 q2 q3 u => K M1 r1 q1 q2 q3 (hF.trans u))
    · replace H := H.2 c2
      replace hF := hF.trans (if_neg c2)
      exact qS_puts_55 S R H (fun M1 r1 q1 q2 q3 u => K M1 r1 q1 q2 q3 (hF.trans u))
  · replace H := H.2 c1
    replace hF := hF.trans (if_neg c1)
    exact qS_puts_55 S R H (fun M1 r1 q1 q2 q3 u => K M1 r1 q1 q2 q3 (hF.trans u))
set_option maxRecDepth 100000 in
noncomputable def qF_puts (p1 : Int32) (p2 : Int32) (p3 : Int32) (r : q_R) : q_R := (q_st (r.2 45 (p1 : Int32).toNatClampNeg) (fun (x_60 : Int32) => (if (x_60 = 0) then (if ((r.2 46 (p1 : Int32).toNatClampNeg) ≤ 0) then (qF_puts_35 p1 p2 p3 x_60 r) else (q_st (ua r 46 (p1 : Int32).toNatClampNeg ((r.2 46 (p1 : Int32).toNatClampNeg) - 1)) (fun r1 => (qF_puts_35 p1 p2 p3 1 r1)))) else (qF_puts_35 p1 p2 p3 x_60 r))))
set_option maxRecDepth 100000 in
theorem qE_puts (p1 : Int32) (p2 : Int32) (p3 : Int32) (r : q_R) : qF_puts p1 p2 p3 r = (q_st (r.2 45 (p1 : Int32).toNatClampNeg) (fun (x_60 : Int32) => (if (x_60 = 0) then (if ((r.2 46 (p1 : Int32).toNatClampNeg) ≤ 0) then (qF_puts_35 p1 p2 p3 x_60 r) else (q_st (ua r 46 (p1 : Int32).toNatClampNeg ((r.2 46 (p1 : Int32).toNatClampNeg) - 1)) (fun r1 => (qF_puts_35 p1 p2 p3 1 r1)))) else (qF_puts_35 p1 p2 p3 x_60 r)))) := rfl
set_option maxRecDepth 100000 in
set_option maxHeartbeats 4000000 in
theorem qS_puts {n : Nat} {Q Post : z_Mem → Prop} {p1 : Int32} {p2 : Int32} {p3 : Int32} {M : z_Mem} {r : q_R} (S : y_S n M) (R : q_rep n M r) (H : P_X12_puts (n + 40) p1 p2 p3 M Q) (K : ∀ M1 r1, Q M1 → y_S n M1 → q_rep n M1 r1 → qF_puts p1 p2 p3 r = r1 → Post M1) : P_X12_puts (n + 40) p1 p2 p3 M Post := by
  have hF := qE_puts p1 p2 p3 r
  unfold P_X12_puts at H ⊢
  replace H := z_nne (s_1541_40 S) H
  refine z_nn_of (s_1541_40 S) ?_
  refine And.intro H.1 ?_
  replace H := H.2
  try simp only [qa_45 R] at H ⊢
  intro x_60 e_x_60
  replace H := H x_60 e_x_60
  replace hF := hF.trans (q_ste e_x_60)
  refine And.intro (fun c1 => ?_) (fun c1 => ?_)
  · replace H := H.1 c1
    replace hF := hF.trans (if_pos c1)
    replace H := z_nne (s_1542_40 S) H
    refine z_nn_of (s_1542_40 S) ?_
    refine And.intro H.1 ?_
    replace H := H.2
    try simp only [qa_46 R] at H ⊢
    refine And.intro (fun c2 => ?_) (fun c2 => ?_)
    · replace H := H.1 c2
      replace hF := hF.trans (if_pos c2)
      exact qS_puts_35 S R H (fun M1 r1 q1 q2 q3 u => K M1 r1 q1 q2 q3 (hF.trans u))
    · replace H := H.2 c2
      replace hF := hF.trans (if_neg c2)
      replace H := z_nne (s_1542_40 S) H
      refine z_nn_of (s_1542_40 S) ?_
      refine And.intro H.1 ?_
      replace H := H.2
      refine And.intro H.1 ?_
      replace H := H.2
      try simp only [qa_46 R] at H ⊢
      intro M_70 e_M_70
      replace H := H M_70 e_M_70
      have S_M_70 : y_S n M_70 := by rw [e_M_70]; exact S_sai S
      have R_M_70 := rep_sai R (by decide) (by decide) e_M_70
      obtain ⟨r_M_70, h_M_70⟩ := q_gen R_M_70
      replace hF := hF.trans (q_ste h_M_70.2)
      replace R_M_70 := h_M_70.1
      exact qS_puts_35 S_M_70 R_M_70 H (fun M1 r1 q1 q2 q3 u => K M1 r1 q1 q2 q3 (hF.trans u))
  · replace H := H.2 c1
    replace hF := hF.trans (if_neg c1)
    exact qS_puts_35 S R H (fun M1 r1 q1 q2 q3 u => K M1 r1 q1 q2 q3 (hF.trans u))
set_option maxRecDepth 100000 in
noncomputable def qF_answers (p1 : Int32) (p2 : Int32) (p3 : Int32) (r : q_R) : q_R := (if ((r.2 45 (p1 : Int32).toNatClampNeg) = 0) then (if ((r.2 47 (p1 : Int32).toNatClampNeg) ≤ 0) then (q_st (ua r 57 ((r.1 1559) : Int32).toNatClampNeg p2) (fun r1 => (q_st (ua r1 58 ((r1.1 1559) : Int32).toNatClampNeg p3) (fun r2 => (q_st (ua r2 59 ((r2.1 1559) : Int32).toNatClampNeg p1) (fun r3 => (q_st (ua r3 60 ((r3.1 1559) : Int32).toNatClampNeg ((r3.1 1536) + (r3.2 41 (p1 : Int32).toNatClampNeg))) (fun r4 => (q_st (uf r4 1559 ((r4.1 1559) + 1)) (fun r5 => r5)))))))))) else (q_st (ua r 47 (p1 : Int32).toNatClampNeg ((r.2 47 (p1 : Int32).toNatClampNeg) - 1)) (fun r6 => r6))) else r)
set_option maxRecDepth 100000 in
theorem qE_answers (p1 : Int32) (p2 : Int32) (p3 : Int32) (r : q_R) : qF_answers p1 p2 p3 r = (if ((r.2 45 (p1 : Int32).toNatClampNeg) = 0) then (if ((r.2 47 (p1 : Int32).toNatClampNeg) ≤ 0) then (q_st (ua r 57 ((r.1 1559) : Int32).toNatClampNeg p2) (fun r1 => (q_st (ua r1 58 ((r1.1 1559) : Int32).toNatClampNeg p3) (fun r2 => (q_st (ua r2 59 ((r2.1 1559) : Int32).toNatClampNeg p1) (fun r3 => (q_st (ua r3 60 ((r3.1 1559) : Int32).toNatClampNeg ((r3.1 1536) + (r3.2 41 (p1 : Int32).toNatClampNeg))) (fun r4 => (q_st (uf r4 1559 ((r4.1 1559) + 1)) (fun r5 => r5)))))))))) else (q_st (ua r 47 (p1 : Int32).toNatClampNeg ((r.2 47 (p1 : Int32).toNatClampNeg) - 1)) (fun r6 => r6))) else r) := rfl
set_option maxRecDepth 100000 in
set_option maxHeartbeats 4000000 in
theorem qS_answers {n : Nat} {Q Post : z_Mem → Prop} {p1 : Int32} {p2 : Int32} {p3 : Int32} {M : z_Mem} {r : q_R} (S : y_S n M) (R : q_rep n M r) (H : P_X12_answers (n + 40) p1 p2 p3 M Q) (K : ∀ M1 r1, Q M1 → y_S n M1 → q_rep n M1 r1 → qF_answers p1 p2 p3 r = r1 → Post M1) : P_X12_answers (n + 40) p1 p2 p3 M Post := by
  have hF := qE_answers p1 p2 p3 r
  unfold P_X12_answers at H ⊢
  replace H := z_nne (s_1541_40 S) H
  refine z_nn_of (s_1541_40 S) ?_
  refine And.intro H.1 ?_
  replace H := H.2
  try simp only [qa_45 R] at H ⊢
  refine And.intro (fun c1 => ?_) (fun c1 => ?_)
  · replace H := H.1 c1
    replace hF := hF.trans (if_pos c1)
    replace H := z_nne (s_1543_40 S) H
    refine z_nn_of (s_1543_40 S) ?_
    refine And.intro H.1 ?_
    replace H := H.2
    try simp only [qa_47 R] at H ⊢
    refine And.intro (fun c2 => ?_) (fun c2 => ?_)
    · replace H := H.1 c2
      replace hF := hF.trans (if_pos c2)
      replace H := z_nne (s_1555_40 S) H
      refine z_nn_of (s_1555_40 S) ?_
      refine And.intro H.1 ?_
      replace H := H.2
      try simp only [qf_1559 R] at H ⊢
      intro M_13 e_M_13
      replace H := H M_13 e_M_13
      have S_M_13 : y_S n M_13 := by rw [e_M_13]; exact S_sai S
      have R_M_13 := rep_sai R (by decide) (by decide) e_M_13
      obtain ⟨r_M_13, h_M_13⟩ := q_gen R_M_13
      replace hF := hF.trans (q_ste h_M_13.2)
      replace R_M_13 := h_M_13.1
      replace H := z_nne (s_1556_40 S_M_13) H
      refine z_nn_of (s_1556_40 S_M_13) ?_
      refine And.intro H.1 ?_
      replace H := H.2
      try simp only [qf_1559 R_M_13] at H ⊢
      intro M_18 e_M_18
      replace H := H M_18 e_M_18
      have S_M_18 : y_S n M_18 := by rw [e_M_18]; exact S_sai S_M_13
      have R_M_18 := rep_sai R_M_13 (by decide) (by decide) e_M_18
      obtain ⟨r_M_18, h_M_18⟩ := q_gen R_M_18
      replace hF := hF.trans (q_ste h_M_18.2)
      replace R_M_18 := h_M_18.1
      replace H := z_nne (s_1557_40 S_M_18) H
      refine z_nn_of (s_1557_40 S_M_18) ?_
      refine And.intro H.1 ?_
      replace H := H.2
      try simp only [qf_1559 R_M_18] at H ⊢
      intro M_23 e_M_23
      replace H := H M_23 e_M_23
      have S_M_23 : y_S n M_23 := by rw [e_M_23]; exact S_sai S_M_18
      have R_M_23 := rep_sai R_M_18 (by decide) (by decide) e_M_23
      obtain ⟨r_M_23, h_M_23⟩ := q_gen R_M_23
      replace hF := hF.trans (q_ste h_M_23.2)
      replace R_M_23 := h_M_23.1
      replace H := z_nne (s_1537_40 S_M_23) H
      refine z_nn_of (s_1537_40 S_M_23) ?_
      refine And.intro H.1 ?_
      replace H := H.2
      replace H := z_nne (s_1558_40 S_M_23) H
      refine z_nn_of (s_1558_40 S_M_23) ?_
      refine And.intro H.1 ?_
      replace H := H.2
      try simp only [qa_41 R_M_23, qf_1536 R_M_23, qf_1559 R_M_23] at H ⊢
      intro M_32 e_M_32
      replace H := H M_32 e_M_32
      have S_M_32 : y_S n M_32 := by rw [e_M_32]; exact S_sai S_M_23
      have R_M_32 := rep_sai R_M_23 (by decide) (by decide) e_M_32
      obtain ⟨r_M_32, h_M_32⟩ := q_gen R_M_32
      replace hF := hF.trans (q_ste h_M_32.2)
      replace R_M_32 := h_M_32.1
      try simp only [qf_1559 R_M_32] at H ⊢
      intro M_34 e_M_34
      replace H := H M_34 e_M_34
      have S_M_34 : y_S n M_34 := by rw [e_M_34]; exact S_sfi S_M_32
      have R_M_34 := rep_sfi R_M_32 e_M_34
      obtain ⟨r_M_34, h_M_34⟩ := q_gen R_M_34
      replace hF := hF.trans (q_ste h_M_34.2)
      replace R_M_34 := h_M_34.1
      exact K _ _ H S_M_34 R_M_34 hF
    · replace H := H.2 c2
      replace hF := hF.trans (if_neg c2)
      replace H := z_nne (s_1543_40 S) H
      refine z_nn_of (s_1543_40 S) ?_
      refine And.intro H.1 ?_
      replace H := H.2
      refine And.intro H.1 ?_
      replace H := H.2
      try simp only [qa_47 R] at H ⊢
      intro M_39 e_M_39
      replace H := H M_39 e_M_39
      have S_M_39 : y_S n M_39 := by rw [e_M_39]; exact S_sai S
      have R_M_39 := rep_sai R (by decide) (by decide) e_M_39
      obtain ⟨r_M_39, h_M_39⟩ := q_gen R_M_39
      replace hF := hF.trans (q_ste h_M_39.2)
      replace R_M_39 := h_M_39.1
      exact K _ _ H S_M_39 R_M_39 hF
  · replace H := H.2 c1
    replace hF := hF.trans (if_neg c1)
    exact K _ _ H S R hF
set_option maxRecDepth 100000 in
noncomputable def qF_setPath_52 (x1 : Int32) (x2 : Int32) (x3 : Int32) (x4 : Int32) (x5 : Int32) (t1 : Int32) (t2 : Int32) (r : q_R) : q_R := (q_st2 (qF_goes t1 t2 1 r) (fun (x_1 : Int32) r1 => (if (x_1 = 0) then r1 else (q_st (ua r1 41 (x1 : Int32).toNatClampNeg x2) (fun r2 => (q_st (ua r2 42 (x1 : Int32).toNatClampNeg x3) (fun r3 => (q_st (ua r3 43 (x1 : Int32).toNatClampNeg x4) (fun r4 => (q_st (ua r4 44 (x1 : Int32).toNatClampNeg x5) (fun r5 => r5)))))))))))
set_option maxRecDepth 100000 in
theorem qE_setPath_52 (x1 : Int32) (x2 : Int32) (x3 : Int32) (x4 : Int32) (x5 : Int32) (t1 : Int32) (t2 : Int32) (r : q_R) : qF_setPath_52 x1 x2 x3 x4 x5 t1 t2 r = (q_st2 (qF_goes t1 t2 1 r) (fun (x_1 : Int32) r1 => (if (x_1 = 0) then r1 else (q_st (ua r1 41 (x1 : Int32).toNatClampNeg x2) (fun r2 => (q_st (ua r2 42 (x1 : Int32).toNatClampNeg x3) (fun r3 => (q_st (ua r3 43 (x1 : Int32).toNatClampNeg x4) (fun r4 => (q_st (ua r4 44 (x1 : Int32).toNatClampNeg x5) (fun r5 => r5))))))))))) := rfl
set_option maxRecDepth 100000 in
set_option maxHeartbeats 4000000 in
theorem qS_setPath_52 {n : Nat} {Q Post : z_Mem → Prop} {x1 : Int32} {x2 : Int32} {x3 : Int32} {x4 : Int32} {x5 : Int32} {t1 : Int32} {t2 : Int32} {o_t0 : Option Nat} {M : z_Mem} {r : q_R} (ho_t0 : o_t0 = some (n + 40)) (S : y_S n M) (R : q_rep n M r) (H : P_X12_setPath_52 (n + 40) Q x1 x2 x3 x4 x5 o_t0 t1 t2 M) (K : ∀ M1 r1, Q M1 → y_S n M1 → q_rep n M1 r1 → qF_setPath_52 x1 x2 x3 x4 x5 t1 t2 r = r1 → Post M1) : P_X12_setPath_52 (n + 40) Post x1 x2 x3 x4 x5 o_t0 t1 t2 M := by
  subst ho_t0
  have hF := qE_setPath_52 x1 x2 x3 x4 x5 t1 t2 r
  unfold P_X12_setPath_52 at H ⊢
  replace H := z_nne rfl H
  refine z_nn_of rfl ?_
  refine qS_goes S R H (fun x_1 M_1 r_M_1 H S_M_1 R_M_1 u => ?_)
  replace hF := hF.trans (q_ste2 u)
  refine And.intro (fun c1 => ?_) (fun c1 => ?_)
  · replace H := H.1 c1
    replace hF := hF.trans (if_pos c1)
    exact K _ _ H S_M_1 R_M_1 hF
  · replace H := H.2 c1
    replace hF := hF.trans (if_neg c1)
    replace H := z_nne (s_1537_40 S_M_1) H
    refine z_nn_of (s_1537_40 S_M_1) ?_
    refine And.intro H.1 ?_
    replace H := H.2
    intro M_7 e_M_7
    replace H := H M_7 e_M_7
    have S_M_7 : y_S n M_7 := by rw [e_M_7]; exact S_sai S_M_1
    have R_M_7 := rep_sai R_M_1 (by decide) (by decide) e_M_7
    obtain ⟨r_M_7, h_M_7⟩ := q_gen R_M_7
    replace hF := hF.trans (q_ste h_M_7.2)
    replace R_M_7 := h_M_7.1
    replace H := z_nne (s_1538_40 S_M_7) H
    refine z_nn_of (s_1538_40 S_M_7) ?_
    refine And.intro H.1 ?_
    replace H := H.2
    intro M_11 e_M_11
    replace H := H M_11 e_M_11
    have S_M_11 : y_S n M_11 := by rw [e_M_11]; exact S_sai S_M_7
    have R_M_11 := rep_sai R_M_7 (by decide) (by decide) e_M_11
    obtain ⟨r_M_11, h_M_11⟩ := q_gen R_M_11
    replace hF := hF.trans (q_ste h_M_11.2)
    replace R_M_11 := h_M_11.1
    replace H := z_nne (s_1539_40 S_M_11) H
    refine z_nn_of (s_1539_40 S_M_11) ?_
    refine And.intro H.1 ?_
    replace H := H.2
    intro M_15 e_M_15
    replace H := H M_15 e_M_15
    have S_M_15 : y_S n M_15 := by rw [e_M_15]; exact S_sai S_M_11
    have R_M_15 := rep_sai R_M_11 (by decide) (by decide) e_M_15
    obtain ⟨r_M_15, h_M_15⟩ := q_gen R_M_15
    replace hF := hF.trans (q_ste h_M_15.2)
    replace R_M_15 := h_M_15.1
    replace H := z_nne (s_1540_40 S_M_15) H
    refine z_nn_of (s_1540_40 S_M_15) ?_
    refine And.intro H.1 ?_
    replace H := H.2
    intro M_19 e_M_19
    replace H := H M_19 e_M_19
    have S_M_19 : y_S n M_19 := by rw [e_M_19]; exact S_sai S_M_15
    have R_M_19 := rep_sai R_M_15 (by decide) (by decide) e_M_19
    obtain ⟨r_M_19, h_M_19⟩ := q_gen R_M_19
    replace hF := hF.trans (q_ste h_M_19.2)
    replace R_M_19 := h_M_19.1
    exact K _ _ H S_M_19 R_M_19 hF
set_option maxRecDepth 100000 in
noncomputable def qF_setPath_51 (x1 : Int32) (x2 : Int32) (x3 : Int32) (x4 : Int32) (x5 : Int32) (t1 : Int32) (r : q_R) : q_R := (qF_setPath_52 x1 x2 x3 x4 x5 t1 0 r)
set_option maxRecDepth 100000 in
theorem qE_setPath_51 (x1 : Int32) (x2 : Int32) (x3 : Int32) (x4 : Int32) (x5 : Int32) (t1 : Int32) (r : q_R) : qF_setPath_51 x1 x2 x3 x4 x5 t1 r = (qF_setPath_52 x1 x2 x3 x4 x5 t1 0 r) := rfl
set_option maxRecDepth 100000 in
set_option maxHeartbeats 4000000 in
theorem qS_setPath_51 {n : Nat} {Q Post : z_Mem → Prop} {x1 : Int32} {x2 : Int32} {x3 : Int32} {x4 : Int32} {x5 : Int32} {t1 : Int32} {o_t0 : Option Nat} {M : z_Mem} {r : q_R} (ho_t0 : o_t0 = some (n + 40)) (S : y_S n M) (R : q_rep n M r) (H : P_X12_setPath_51 (n + 40) Q x1 x2 x3 x4 x5 o_t0 t1 M) (K : ∀ M1 r1, Q M1 → y_S n M1 → q_rep n M1 r1 → qF_setPath_51 x1 x2 x3 x4 x5 t1 r = r1 → Post M1) : P_X12_setPath_51 (n + 40) Post x1 x2 x3 x4 x5 o_t0 t1 M := by
  subst ho_t0
  have hF := qE_setPath_51 x1 x2 x3 x4 x5 t1 r
  unfold P_X12_setPath_51 at H ⊢
  exact qS_setPath_52 rfl S R H (fun M1 r1 q1 q2 q3 u => K M1 r1 q1 q2 q3 (hF.trans u))
set_option maxRecDepth 100000 in
noncomputable def qF_setPath (p1 : Int32) (p2 : Int32) (p3 : Int32) (p4 : Int32) (p5 : Int32) (r : q_R) : q_R := (q_st2 (qF_isPath p1 r) (fun (x_20 : Int32) r1 => (q_st2 (qF_in p2 1 30 r1) (fun (x_21 : Int32) r2 => (if (x_21 = 0) then (qF_setPath_51 p1 p2 p3 p4 p5 x_20 r2) else (q_st2 (qF_in p3 1 9 r2) (fun (x_23 : Int32) r3 => (if (x_23 = 0) then (qF_setPath_51 p1 p2 p3 p4 p5 x_20 r3) else (q_st2 (qF_in p4 1 30 r3) (fun (x_25 : Int32) r4 => (if (x_25 = 0) then (qF_setPath_51 p1 p2 p3 p4 p5 x_20 r4) else (q_st2 (qF_in p5 0 30 r4) (fun (x_27 : Int32) r5 => (if (x_27 = 0) then (qF_setPath_51 p1 p2 p3 p4 p5 x_20 r5) else (qF_setPath_52 p1 p2 p3 p4 p5 x_20 1 r5)))))))))))))))
set_option maxRecDepth 100000 in
theorem qE_setPath (p1 : Int32) (p2 : Int32) (p3 : Int32) (p4 : Int32) (p5 : Int32) (r : q_R) : qF_setPath p1 p2 p3 p4 p5 r = (q_st2 (qF_isPath p1 r) (fun (x_20 : Int32) r1 => (q_st2 (qF_in p2 1 30 r1) (fun (x_21 : Int32) r2 => (if (x_21 = 0) then (qF_setPath_51 p1 p2 p3 p4 p5 x_20 r2) else (q_st2 (qF_in p3 1 9 r2) (fun (x_23 : Int32) r3 => (if (x_23 = 0) then (qF_setPath_51 p1 p2 p3 p4 p5 x_20 r3) else (q_st2 (qF_in p4 1 30 r3) (fun (x_25 : Int32) r4 => (if (x_25 = 0) then (qF_setPath_51 p1 p2 p3 p4 p5 x_20 r4) else (q_st2 (qF_in p5 0 30 r4) (fun (x_27 : Int32) r5 => (if (x_27 = 0) then (qF_setPath_51 p1 p2 p3 p4 p5 x_20 r5) else (qF_setPath_52 p1 p2 p3 p4 p5 x_20 1 r5))))))))))))))) := rfl
set_option maxRecDepth 100000 in
set_option maxHeartbeats 4000000 in
theorem qS_setPath {n : Nat} {Q Post : z_Mem → Prop} {p1 : Int32} {p2 : Int32} {p3 : Int32} {p4 : Int32} {p5 : Int32} {M : z_Mem} {r : q_R} (S : y_S n M) (R : q_rep n M r) (H : P_X12_setPath (n + 40) p1 p2 p3 p4 p5 M Q) (K : ∀ M1 r1, Q M1 → y_S n M1 → q_rep n M1 r1 → qF_setPath p1 p2 p3 p4 p5 r = r1 → Post M1) : P_X12_setPath (n + 40) p1 p2 p3 p4 p5 M Post := by
  have hF := qE_setPath p1 p2 p3 p4 p5 r
  unfold P_X12_setPath at H ⊢
  refine qS_isPath S R H (fun x_20 M_20 r_M_20 H S_M_20 R_M_20 u => ?_)
  replace hF := hF.trans (q_ste2 u)
  refine qS_in S_M_20 R_M_20 H (fun x_21 M_21 r_M_21 H S_M_21 R_M_21 u => ?_)
  replace hF := hF.trans (q_ste2 u)
  refine And.intro (fun c1 => ?_) (fun c1 => ?_)
  · replace H := H.1 c1
    replace hF := hF.trans (if_pos c1)
    exact qS_setPath_51 rfl S_M_21 R_M_21 H (fun M1 r1 q1 q2 q3 u => K M1 r1 q1 q2 q3 (hF.trans u))
  · replace H := H.2 c1
    replace hF := hF.trans (if_neg c1)
    refine qS_in S_M_21 R_M_21 H (fun x_23 M_23 r_M_23 H S_M_23 R_M_23 u => ?_)
    replace hF := hF.trans (q_ste2 u)
    refine And.intro (fun c2 => ?_) (fun c2 => ?_)
    · replace H := H.1 c2
      replace hF := hF.trans (if_pos c2)
      exact qS_setPath_51 rfl S_M_23 R_M_23 H (fun M1 r1 q1 q2 q3 u => K M1 r1 q1 q2 q3 (hF.trans u))
    · replace H := H.2 c2
      replace hF := hF.trans (if_neg c2)
      refine qS_in S_M_23 R_M_23 H (fun x_25 M_25 r_M_25 H S_M_25 R_M_25 u => ?_)
      replace hF := hF.trans (q_ste2 u)
      refine And.intro (fun c3 => ?_) (fun c3 => ?_)
      · replace H := H.1 c3
        replace hF := hF.trans (if_pos c3)
        exact qS_setPath_51 rfl S_M_25 R_M_25 H (fun M1 r1 q1 q2 q3 u => K M1 r1 q1 q2 q3 (hF.trans u))
      · replace H := H.2 c3
        replace hF := hF.trans (if_neg c3)
        refine qS_in S_M_25 R_M_25 H (fun x_27 M_27 r_M_27 H S_M_27 R_M_27 u => ?_)
        replace hF := hF.trans (q_ste2 u)
        refine And.intro (fun c4 => ?_) (fun c4 => ?_)
        · replace H := H.1 c4
          replace hF := hF.trans (if_pos c4)
          exact qS_setPath_51 rfl S_M_27 R_M_27 H (fun M1 r1 q1 q2 q3 u => K M1 r1 q1 q2 q3 (hF.trans u))
        · replace H := H.2 c4
          replace hF := hF.trans (if_neg c4)
          exact qS_setPath_52 rfl S_M_27 R_M_27 H (fun M1 r1 q1 q2 q3 u => K M1 r1 q1 q2 q3 (hF.trans u))
set_option maxRecDepth 100000 in
noncomputable def qF_setUp_29 (x1 : Int32) (x2 : Int32) (t0 : Int32) (r : q_R) : (Int32 × q_R) := (if (x2 = 0) then (q_st (ua r 45 (x1 : Int32).toNatClampNeg 1) (fun r1 => (t0, r1))) else (q_st (ua r 45 (x1 : Int32).toNatClampNeg 0) (fun r2 => (t0, r2))))
set_option maxRecDepth 100000 in
theorem qE_setUp_29 (x1 : Int32) (x2 : Int32) (t0 : Int32) (r : q_R) : qF_setUp_29 x1 x2 t0 r = (if (x2 = 0) then (q_st (ua r 45 (x1 : Int32).toNatClampNeg 1) (fun r1 => (t0, r1))) else (q_st (ua r 45 (x1 : Int32).toNatClampNeg 0) (fun r2 => (t0, r2)))) := rfl
set_option maxRecDepth 100000 in
set_option maxHeartbeats 4000000 in
theorem qS_setUp_29 {n : Nat} {Q Post : Int32 → z_Mem → Prop} {x1 : Int32} {x2 : Int32} {t0 : Int32} {M : z_Mem} {r : q_R} (S : y_S n M) (R : q_rep n M r) (H : P_X12_setUp_29 (n + 40) Q x1 x2 t0 M) (K : ∀ x M1 r1, Q x M1 → y_S n M1 → q_rep n M1 r1 → qF_setUp_29 x1 x2 t0 r = (x, r1) → Post x M1) : P_X12_setUp_29 (n + 40) Post x1 x2 t0 M := by
  have hF := qE_setUp_29 x1 x2 t0 r
  unfold P_X12_setUp_29 at H ⊢
  refine And.intro (fun c1 => ?_) (fun c1 => ?_)
  · replace H := H.1 c1
    replace hF := hF.trans (if_pos c1)
    replace H := z_nne (s_1541_40 S) H
    refine z_nn_of (s_1541_40 S) ?_
    refine And.intro H.1 ?_
    replace H := H.2
    intro M_8 e_M_8
    replace H := H M_8 e_M_8
    have S_M_8 : y_S n M_8 := by rw [e_M_8]; exact S_sai S
    have R_M_8 := rep_sai R (by decide) (by decide) e_M_8
    obtain ⟨r_M_8, h_M_8⟩ := q_gen R_M_8
    replace hF := hF.trans (q_ste h_M_8.2)
    replace R_M_8 := h_M_8.1
    exact K _ _ _ H S_M_8 R_M_8 hF
  · replace H := H.2 c1
    replace hF := hF.trans (if_neg c1)
    replace H := z_nne (s_1541_40 S) H
    refine z_nn_of (s_1541_40 S) ?_
    refine And.intro H.1 ?_
    replace H := H.2
    intro M_5 e_M_5
    replace H := H M_5 e_M_5
    have S_M_5 : y_S n M_5 := by rw [e_M_5]; exact S_sai S
    have R_M_5 := rep_sai R (by decide) (by decide) e_M_5
    obtain ⟨r_M_5, h_M_5⟩ := q_gen R_M_5
    replace hF := hF.trans (q_ste h_M_5.2)
    replace R_M_5 := h_M_5.1
    exact K _ _ _ H S_M_5 R_M_5 hF
set_option maxRecDepth 100000 in
noncomputable def qF_setUp (p1 : Int32) (p2 : Int32) (r : q_R) : (Int32 × q_R) := (q_st2 (qF_isPath p1 r) (fun (x_9 : Int32) r1 => (q_st2 (qF_goes x_9 1 1 r1) (fun (x_10 : Int32) r2 => (if (x_10 = 0) then (0, r2) else (if ((r2.2 45 (p1 : Int32).toNatClampNeg) = 0) then (qF_setUp_29 p1 p2 1 r2) else (qF_setUp_29 p1 p2 0 r2)))))))
set_option maxRecDepth 100000 in
theorem qE_setUp (p1 : Int32) (p2 : Int32) (r : q_R) : qF_setUp p1 p2 r = (q_st2 (qF_isPath p1 r) (fun (x_9 : Int32) r1 => (q_st2 (qF_goes x_9 1 1 r1) (fun (x_10 : Int32) r2 => (if (x_10 = 0) then (0, r2) else (if ((r2.2 45 (p1 : Int32).toNatClampNeg) = 0) then (qF_setUp_29 p1 p2 1 r2) else (qF_setUp_29 p1 p2 0 r2))))))) := rfl
set_option maxRecDepth 100000 in
set_option maxHeartbeats 4000000 in
theorem qS_setUp {n : Nat} {Q Post : Int32 → z_Mem → Prop} {p1 : Int32} {p2 : Int32} {M : z_Mem} {r : q_R} (S : y_S n M) (R : q_rep n M r) (H : P_X12_setUp (n + 40) p1 p2 M Q) (K : ∀ x M1 r1, Q x M1 → y_S n M1 → q_rep n M1 r1 → qF_setUp p1 p2 r = (x, r1) → Post x M1) : P_X12_setUp (n + 40) p1 p2 M Post := by
  have hF := qE_setUp p1 p2 r
  unfold P_X12_setUp at H ⊢
  refine qS_isPath S R H (fun x_9 M_9 r_M_9 H S_M_9 R_M_9 u => ?_)
  replace hF := hF.trans (q_ste2 u)
  refine qS_goes S_M_9 R_M_9 H (fun x_10 M_10 r_M_10 H S_M_10 R_M_10 u => ?_)
  replace hF := hF.trans (q_ste2 u)
  refine And.intro (fun c1 => ?_) (fun c1 => ?_)
  · replace H := H.1 c1
    replace hF := hF.trans (if_pos c1)
    exact K _ _ _ H S_M_10 R_M_10 hF
  · replace H := H.2 c1
    replace hF := hF.trans (if_neg c1)
    replace H := z_nne (s_1541_40 S_M_10) H
    refine z_nn_of (s_1541_40 S_M_10) ?_
    refine And.intro H.1 ?_
    replace H := H.2
    try simp only [qa_45 R_M_10] at H ⊢
    refine And.intro (fun c2 => ?_) (fun c2 => ?_)
    · replace H := H.1 c2
      replace hF := hF.trans (if_pos c2)
      exact qS_setUp_29 S_M_10 R_M_10 H (fun x M1 r1 q1 q2 q3 u => K x M1 r1 q1 q2 q3 (hF.trans u))
    · replace H := H.2 c2
      replace hF := hF.trans (if_neg c2)
      exact qS_setUp_29 S_M_10 R_M_10 H (fun x M1 r1 q1 q2 q3 u => K x M1 r1 q1 q2 q3 (hF.trans u))
set_option maxRecDepth 100000 in
noncomputable def qF_lose (p1 : Int32) (p2 : Int32) (p3 : Int32) (r : q_R) : q_R := (q_st2 (qF_isPath p1 r) (fun (x_1 : Int32) r1 => (q_st2 (qF_in p3 0 20 r1) (fun (x_2 : Int32) r2 => (q_st2 (qF_goes x_1 x_2 1 r2) (fun (x_3 : Int32) r3 => (if (x_3 = 0) then r3 else (if (p2 = 0) then (q_st (ua r3 47 (p1 : Int32).toNatClampNeg p3) (fun r4 => r4)) else (q_st (ua r3 46 (p1 : Int32).toNatClampNeg p3) (fun r5 => r5))))))))))
set_option maxRecDepth 100000 in
theorem qE_lose (p1 : Int32) (p2 : Int32) (p3 : Int32) (r : q_R) : qF_lose p1 p2 p3 r = (q_st2 (qF_isPath p1 r) (fun (x_1 : Int32) r1 => (q_st2 (qF_in p3 0 20 r1) (fun (x_2 : Int32) r2 => (q_st2 (qF_goes x_1 x_2 1 r2) (fun (x_3 : Int32) r3 => (if (x_3 = 0) then r3 else (if (p2 = 0) then (q_st (ua r3 47 (p1 : Int32).toNatClampNeg p3) (fun r4 => r4)) else (q_st (ua r3 46 (p1 : Int32).toNatClampNeg p3) (fun r5 => r5)))))))))) := rfl
set_option maxRecDepth 100000 in
set_option maxHeartbeats 4000000 in
theorem qS_lose {n : Nat} {Q Post : z_Mem → Prop} {p1 : Int32} {p2 : Int32} {p3 : Int32} {M : z_Mem} {r : q_R} (S : y_S n M) (R : q_rep n M r) (H : P_X12_lose (n + 40) p1 p2 p3 M Q) (K : ∀ M1 r1, Q M1 → y_S n M1 → q_rep n M1 r1 → qF_lose p1 p2 p3 r = r1 → Post M1) : P_X12_lose (n + 40) p1 p2 p3 M Post := by
  have hF := qE_lose p1 p2 p3 r
  unfold P_X12_lose at H ⊢
  refine qS_isPath S R H (fun x_1 M_1 r_M_1 H S_M_1 R_M_1 u => ?_)
  replace hF := hF.trans (q_ste2 u)
  refine qS_in S_M_1 R_M_1 H (fun x_2 M_2 r_M_2 H S_M_2 R_M_2 u => ?_)
  replace hF := hF.trans (q_ste2 u)
  refine qS_goes S_M_2 R_M_2 H (fun x_3 M_3 r_M_3 H S_M_3 R_M_3 u => ?_)
  replace hF := hF.trans (q_ste2 u)
  refine And.intro (fun c1 => ?_) (fun c1 => ?_)
  · replace H := H.1 c1
    replace hF := hF.trans (if_pos c1)
    exact K _ _ H S_M_3 R_M_3 hF
  · replace H := H.2 c1
    replace hF := hF.trans (if_neg c1)
    refine And.intro (fun c2 => ?_) (fun c2 => ?_)
    · replace H := H.1 c2
      replace hF := hF.trans (if_pos c2)
      replace H := z_nne (s_1543_40 S_M_3) H
      refine z_nn_of (s_1543_40 S_M_3) ?_
      refine And.intro H.1 ?_
      replace H := H.2
      intro M_9 e_M_9
      replace H := H M_9 e_M_9
      have S_M_9 : y_S n M_9 := by rw [e_M_9]; exact S_sai S_M_3
      have R_M_9 := rep_sai R_M_3 (by decide) (by decide) e_M_9
      obtain ⟨r_M_9, h_M_9⟩ := q_gen R_M_9
      replace hF := hF.trans (q_ste h_M_9.2)
      replace R_M_9 := h_M_9.1
      exact K _ _ H S_M_9 R_M_9 hF
    · replace H := H.2 c2
      replace hF := hF.trans (if_neg c2)
      replace H := z_nne (s_1542_40 S_M_3) H
      refine z_nn_of (s_1542_40 S_M_3) ?_
      refine And.intro H.1 ?_
      replace H := H.2
      intro M_13 e_M_13
      replace H := H M_13 e_M_13
      have S_M_13 : y_S n M_13 := by rw [e_M_13]; exact S_sai S_M_3
      have R_M_13 := rep_sai R_M_3 (by decide) (by decide) e_M_13
      obtain ⟨r_M_13, h_M_13⟩ := q_gen R_M_13
      replace hF := hF.trans (q_ste h_M_13.2)
      replace R_M_13 := h_M_13.1
      exact K _ _ H S_M_13 R_M_13 hF
set_option maxRecDepth 100000 in
noncomputable def qF_late_30 (x1 : Int32) (x2 : Int32) (x3 : Int32) (t1 : Int32) (t2 : Int32) (r : q_R) : q_R := (q_st2 (qF_goes t1 t2 1 r) (fun (x_1 : Int32) r1 => (if (x_1 = 0) then r1 else (q_st (ua r1 48 (x1 : Int32).toNatClampNeg x2) (fun r2 => (q_st (ua r2 49 (x1 : Int32).toNatClampNeg x3) (fun r3 => r3)))))))
set_option maxRecDepth 100000 in
theorem qE_late_30 (x1 : Int32) (x2 : Int32) (x3 : Int32) (t1 : Int32) (t2 : Int32) (r : q_R) : qF_late_30 x1 x2 x3 t1 t2 r = (q_st2 (qF_goes t1 t2 1 r) (fun (x_1 : Int32) r1 => (if (x_1 = 0) then r1 else (q_st (ua r1 48 (x1 : Int32).toNatClampNeg x2) (fun r2 => (q_st (ua r2 49 (x1 : Int32).toNatClampNeg x3) (fun r3 => r3))))))) := rfl
set_option maxRecDepth 100000 in
set_option maxHeartbeats 4000000 in
theorem qS_late_30 {n : Nat} {Q Post : z_Mem → Prop} {x1 : Int32} {x2 : Int32} {x3 : Int32} {t1 : Int32} {t2 : Int32} {o_t0 : Option Nat} {M : z_Mem} {r : q_R} (ho_t0 : o_t0 = some (n + 40)) (S : y_S n M) (R : q_rep n M r) (H : P_X12_late_30 (n + 40) Q x1 x2 x3 o_t0 t1 t2 M) (K : ∀ M1 r1, Q M1 → y_S n M1 → q_rep n M1 r1 → qF_late_30 x1 x2 x3 t1 t2 r = r1 → Post M1) : P_X12_late_30 (n + 40) Post x1 x2 x3 o_t0 t1 t2 M := by
  subst ho_t0
  have hF := qE_late_30 x1 x2 x3 t1 t2 r
  unfold P_X12_late_30 at H ⊢
  replace H := z_nne rfl H
  refine z_nn_of rfl ?_
  refine qS_goes S R H (fun x_1 M_1 r_M_1 H S_M_1 R_M_1 u => ?_)
  replace hF := hF.trans (q_ste2 u)
  refine And.intro (fun c1 => ?_) (fun c1 => ?_)
  · replace H := H.1 c1
    replace hF := hF.trans (if_pos c1)
    exact K _ _ H S_M_1 R_M_1 hF
  · replace H := H.2 c1
    replace hF := hF.trans (if_neg c1)
    replace H := z_nne (s_1544_40 S_M_1) H
    refine z_nn_of (s_1544_40 S_M_1) ?_
    refine And.intro H.1 ?_
    replace H := H.2
    intro M_7 e_M_7
    replace H := H M_7 e_M_7
    have S_M_7 : y_S n M_7 := by rw [e_M_7]; exact S_sai S_M_1
    have R_M_7 := rep_sai R_M_1 (by decide) (by decide) e_M_7
    obtain ⟨r_M_7, h_M_7⟩ := q_gen R_M_7
    replace hF := hF.trans (q_ste h_M_7.2)
    replace R_M_7 := h_M_7.1
    replace H := z_nne (s_1545_40 S_M_7) H
    refine z_nn_of (s_1545_40 S_M_7) ?_
    refine And.intro H.1 ?_
    replace H := H.2
    intro M_11 e_M_11
    replace H := H M_11 e_M_11
    have S_M_11 : y_S n M_11 := by rw [e_M_11]; exact S_sai S_M_7
    have R_M_11 := rep_sai R_M_7 (by decide) (by decide) e_M_11
    obtain ⟨r_M_11, h_M_11⟩ := q_gen R_M_11
    replace hF := hF.trans (q_ste h_M_11.2)
    replace R_M_11 := h_M_11.1
    exact K _ _ H S_M_11 R_M_11 hF
set_option maxRecDepth 100000 in
noncomputable def qF_late_29 (x1 : Int32) (x2 : Int32) (x3 : Int32) (t1 : Int32) (r : q_R) : q_R := (qF_late_30 x1 x2 x3 t1 0 r)
set_option maxRecDepth 100000 in
theorem qE_late_29 (x1 : Int32) (x2 : Int32) (x3 : Int32) (t1 : Int32) (r : q_R) : qF_late_29 x1 x2 x3 t1 r = (qF_late_30 x1 x2 x3 t1 0 r) := rfl
set_option maxRecDepth 100000 in
set_option maxHeartbeats 4000000 in
theorem qS_late_29 {n : Nat} {Q Post : z_Mem → Prop} {x1 : Int32} {x2 : Int32} {x3 : Int32} {t1 : Int32} {o_t0 : Option Nat} {M : z_Mem} {r : q_R} (ho_t0 : o_t0 = some (n + 40)) (S : y_S n M) (R : q_rep n M r) (H : P_X12_late_29 (n + 40) Q x1 x2 x3 o_t0 t1 M) (K : ∀ M1 r1, Q M1 → y_S n M1 → q_rep n M1 r1 → qF_late_29 x1 x2 x3 t1 r = r1 → Post M1) : P_X12_late_29 (n + 40) Post x1 x2 x3 o_t0 t1 M := by
  subst ho_t0
  have hF := qE_late_29 x1 x2 x3 t1 r
  unfold P_X12_late_29 at H ⊢
  exact qS_late_30 rfl S R H (fun M1 r1 q1 q2 q3 u => K M1 r1 q1 q2 q3 (hF.trans u))
set_option maxRecDepth 100000 in
noncomputable def qF_late (p1 : Int32) (p2 : Int32) (p3 : Int32) (r : q_R) : q_R := (q_st2 (qF_isPath p1 r) (fun (x_12 : Int32) r1 => (q_st2 (qF_in p2 0 20 r1) (fun (x_13 : Int32) r2 => (if (x_13 = 0) then (qF_late_29 p1 p2 p3 x_12 r2) else (q_st2 (qF_in p3 0 50 r2) (fun (x_15 : Int32) r3 => (if (x_15 = 0) then (qF_late_29 p1 p2 p3 x_12 r3) else (qF_late_30 p1 p2 p3 x_12 1 r3)))))))))
set_option maxRecDepth 100000 in
theorem qE_late (p1 : Int32) (p2 : Int32) (p3 : Int32) (r : q_R) : qF_late p1 p2 p3 r = (q_st2 (qF_isPath p1 r) (fun (x_12 : Int32) r1 => (q_st2 (qF_in p2 0 20 r1) (fun (x_13 : Int32) r2 => (if (x_13 = 0) then (qF_late_29 p1 p2 p3 x_12 r2) else (q_st2 (qF_in p3 0 50 r2) (fun (x_15 : Int32) r3 => (if (x_15 = 0) then (qF_late_29 p1 p2 p3 x_12 r3) else (qF_late_30 p1 p2 p3 x_12 1 r3))))))))) := rfl
set_option maxRecDepth 100000 in
set_option maxHeartbeats 4000000 in
theorem qS_late {n : Nat} {Q Post : z_Mem → Prop} {p1 : Int32} {p2 : Int32} {p3 : Int32} {M : z_Mem} {r : q_R} (S : y_S n M) (R : q_rep n M r) (H : P_X12_late (n + 40) p1 p2 p3 M Q) (K : ∀ M1 r1, Q M1 → y_S n M1 → q_rep n M1 r1 → qF_late p1 p2 p3 r = r1 → Post M1) : P_X12_late (n + 40) p1 p2 p3 M Post := by
  have hF := qE_late p1 p2 p3 r
  unfold P_X12_late at H ⊢
  refine qS_isPath S R H (fun x_12 M_12 r_M_12 H S_M_12 R_M_12 u => ?_)
  replace hF := hF.trans (q_ste2 u)
  refine qS_in S_M_12 R_M_12 H (fun x_13 M_13 r_M_13 H S_M_13 R_M_13 u => ?_)
  replace hF := hF.trans (q_ste2 u)
  refine And.intro (fun c1 => ?_) (fun c1 => ?_)
  · replace H := H.1 c1
    replace hF := hF.trans (if_pos c1)
    exact qS_late_29 rfl S_M_13 R_M_13 H (fun M1 r1 q1 q2 q3 u => K M1 r1 q1 q2 q3 (hF.trans u))
  · replace H := H.2 c1
    replace hF := hF.trans (if_neg c1)
    refine qS_in S_M_13 R_M_13 H (fun x_15 M_15 r_M_15 H S_M_15 R_M_15 u => ?_)
    replace hF := hF.trans (q_ste2 u)
    refine And.intro (fun c2 => ?_) (fun c2 => ?_)
    · replace H := H.1 c2
      replace hF := hF.trans (if_pos c2)
      exact qS_late_29 rfl S_M_15 R_M_15 H (fun M1 r1 q1 q2 q3 u => K M1 r1 q1 q2 q3 (hF.trans u))
    · replace H := H.2 c2
      replace hF := hF.trans (if_neg c2)
      exact qS_late_30 rfl S_M_15 R_M_15 H (fun M1 r1 q1 q2 q3 u => K M1 r1 q1 q2 q3 (hF.trans u))
set_option maxRecDepth 100000 in
noncomputable def qB_foreign_23 (x1 : Int32) (x2 : Int32) (x3 : Int32) (r : q_R) : (Int32 × Int32 × Int32 × q_R) ⊕ (Int32 × q_R) := (if (x2 ≤ x3) then (.inr (x3, r)) else (if ((r.2 43 (x1 : Int32).toNatClampNeg) ≤ (r.2 51 (x1 : Int32).toNatClampNeg)) then (.inr (x3, r)) else (q_st (ua r 50 (((30 * x1) + (r.2 51 (x1 : Int32).toNatClampNeg)) : Int32).toNatClampNeg (-1)) (fun r1 => (q_st (ua r1 51 (x1 : Int32).toNatClampNeg ((r1.2 51 (x1 : Int32).toNatClampNeg) + 1)) (fun r2 => (q_st (x3 + 1) (fun (x_21 : Int32) => (.inl (x1, x2, x_21, r2))))))))))
set_option maxRecDepth 100000 in
noncomputable def qF_foreign_23 (x1 : Int32) (x2 : Int32) (x3 : Int32) (r : q_R) : (Int32 × q_R) := q_lp (X := (Int32 × Int32 × Int32 × q_R)) (Y := (Int32 × q_R)) ((0 : Int32), r) (fun t => qB_foreign_23 t.1 t.2.1 t.2.2.1 t.2.2.2) (x1, x2, x3, r)
set_option maxRecDepth 100000 in
theorem qUl_foreign_23 {x1 : Int32} {x2 : Int32} {x3 : Int32} {r : q_R} {y_x1 : Int32} {y_x2 : Int32} {y_x3 : Int32} {r1 : q_R} (h : qB_foreign_23 x1 x2 x3 r = .inl (y_x1, y_x2, y_x3, r1)) : qF_foreign_23 x1 x2 x3 r = qF_foreign_23 y_x1 y_x2 y_x3 r1 := q_lpl (step := fun t => qB_foreign_23 t.1 t.2.1 t.2.2.1 t.2.2.2) h
set_option maxRecDepth 100000 in
theorem qUr_foreign_23 {x1 : Int32} {x2 : Int32} {x3 : Int32} {r : q_R} {y : (Int32 × q_R)} (h : qB_foreign_23 x1 x2 x3 r = .inr y) : qF_foreign_23 x1 x2 x3 r = y := q_lpr (step := fun t => qB_foreign_23 t.1 t.2.1 t.2.2.1 t.2.2.2) h
set_option maxRecDepth 100000 in
theorem qE_foreign_23 (x1 : Int32) (x2 : Int32) (x3 : Int32) (r : q_R) : qB_foreign_23 x1 x2 x3 r = (if (x2 ≤ x3) then (.inr (x3, r)) else (if ((r.2 43 (x1 : Int32).toNatClampNeg) ≤ (r.2 51 (x1 : Int32).toNatClampNeg)) then (.inr (x3, r)) else (q_st (ua r 50 (((30 * x1) + (r.2 51 (x1 : Int32).toNatClampNeg)) : Int32).toNatClampNeg (-1)) (fun r1 => (q_st (ua r1 51 (x1 : Int32).toNatClampNeg ((r1.2 51 (x1 : Int32).toNatClampNeg) + 1)) (fun r2 => (q_st (x3 + 1) (fun (x_21 : Int32) => (.inl (x1, x2, x_21, r2)))))))))) := rfl
set_option maxRecDepth 100000 in
set_option maxHeartbeats 4000000 in
theorem qS_foreign_23 {n : Nat} {Q Post : Int32 → z_Mem → Prop} : ∀ (m : Nat) {x1 : Int32} {x2 : Int32} {x3 : Int32} {M : z_Mem} {r : q_R} (S : y_S n M) (R : q_rep n M r) (H : P_X12_foreign_23 (n + 40) Q m x1 x2 x3 M) (K : ∀ x M1 r1, Q x M1 → y_S n M1 → q_rep n M1 r1 → qF_foreign_23 x1 x2 x3 r = (x, r1) → Post x M1), P_X12_foreign_23 (n + 40) Post m x1 x2 x3 M := by
  intro m
  induction m with
  | zero => intros; rename_i H _; exact False.elim H
  | succ m ih =>
    intro x1 x2 x3 M r S R H K
    have hF := qE_foreign_23 x1 x2 x3 r
    unfold P_X12_foreign_23 at H ⊢
    refine And.intro (fun c1 => ?_) (fun c1 => ?_)
    · replace H := H.1 c1
      replace hF := hF.trans (if_pos c1)
      exact K _ _ _ H S R (qUr_foreign_23 hF)
    · replace H := H.2 c1
      replace hF := hF.trans (if_neg c1)
      replace H := z_nne (s_1547_40 S) H
      refine z_nn_of (s_1547_40 S) ?_
      refine And.intro H.1 ?_
      replace H := H.2
      replace H := z_nne (s_1539_40 S) H
      refine z_nn_of (s_1539_40 S) ?_
      refine And.intro H.1 ?_
      replace H := H.2
      try simp only [qa_43 R, qa_51 R] at H ⊢
      refine And.intro (fun c2 => ?_) (fun c2 => ?_)
      · replace H := H.1 c2
        replace hF := hF.trans (if_pos c2)
        exact K _ _ _ H S R (qUr_foreign_23 hF)
      · replace H := H.2 c2
        replace hF := hF.trans (if_neg c2)
        replace H := z_nne (s_1547_40 S) H
        refine z_nn_of (s_1547_40 S) ?_
        refine And.intro H.1 ?_
        replace H := H.2
        replace H := z_nne (s_1546_40 S) H
        refine z_nn_of (s_1546_40 S) ?_
        refine And.intro H.1 ?_
        replace H := H.2
        try simp only [qa_51 R] at H ⊢
        intro M_15 e_M_15
        replace H := H M_15 e_M_15
        have S_M_15 : y_S n M_15 := by rw [e_M_15]; exact S_sai S
        have R_M_15 := rep_sai R (by decide) (by decide) e_M_15
        obtain ⟨r_M_15, h_M_15⟩ := q_gen R_M_15
        replace hF := hF.trans (q_ste h_M_15.2)
        replace R_M_15 := h_M_15.1
        replace H := z_nne (s_1547_40 S_M_15) H
        refine z_nn_of (s_1547_40 S_M_15) ?_
        refine And.intro H.1 ?_
        replace H := H.2
        refine And.intro H.1 ?_
        replace H := H.2
        try simp only [qa_51 R_M_15] at H ⊢
        intro M_20 e_M_20
        replace H := H M_20 e_M_20
        have S_M_20 : y_S n M_20 := by rw [e_M_20]; exact S_sai S_M_15
        have R_M_20 := rep_sai R_M_15 (by decide) (by decide) e_M_20
        obtain ⟨r_M_20, h_M_20⟩ := q_gen R_M_20
        replace hF := hF.trans (q_ste h_M_20.2)
        replace R_M_20 := h_M_20.1
        intro x_21 e_x_21
        replace H := H x_21 e_x_21
        replace hF := hF.trans (q_ste e_x_21)
        replace hF := qUl_foreign_23 hF
        exact ih S_M_20 R_M_20 H (fun x M1 r1 q1 q2 q3 u => K x M1 r1 q1 q2 q3 (hF.trans u))
set_option maxRecDepth 100000 in
noncomputable def qF_foreign (p1 : Int32) (p2 : Int32) (r : q_R) : (Int32 × q_R) := (q_st2 (qF_isPath p1 r) (fun (x_22 : Int32) r1 => (q_st2 (qF_in p2 1 30 r1) (fun (x_23 : Int32) r2 => (q_st2 (qF_goes x_22 x_23 1 r2) (fun (x_24 : Int32) r3 => (if (x_24 = 0) then (0, r3) else (qF_foreign_23 p1 p2 0 r3))))))))
set_option maxRecDepth 100000 in
theorem qE_foreign (p1 : Int32) (p2 : Int32) (r : q_R) : qF_foreign p1 p2 r = (q_st2 (qF_isPath p1 r) (fun (x_22 : Int32) r1 => (q_st2 (qF_in p2 1 30 r1) (fun (x_23 : Int32) r2 => (q_st2 (qF_goes x_22 x_23 1 r2) (fun (x_24 : Int32) r3 => (if (x_24 = 0) then (0, r3) else (qF_foreign_23 p1 p2 0 r3)))))))) := rfl
set_option maxRecDepth 100000 in
set_option maxHeartbeats 4000000 in
theorem qS_foreign {n : Nat} {Q Post : Int32 → z_Mem → Prop} {p1 : Int32} {p2 : Int32} {M : z_Mem} {r : q_R} (S : y_S n M) (R : q_rep n M r) (H : P_X12_foreign (n + 40) p1 p2 M Q) (K : ∀ x M1 r1, Q x M1 → y_S n M1 → q_rep n M1 r1 → qF_foreign p1 p2 r = (x, r1) → Post x M1) : P_X12_foreign (n + 40) p1 p2 M Post := by
  have hF := qE_foreign p1 p2 r
  unfold P_X12_foreign at H ⊢
  refine qS_isPath S R H (fun x_22 M_22 r_M_22 H S_M_22 R_M_22 u => ?_)
  replace hF := hF.trans (q_ste2 u)
  refine qS_in S_M_22 R_M_22 H (fun x_23 M_23 r_M_23 H S_M_23 R_M_23 u => ?_)
  replace hF := hF.trans (q_ste2 u)
  refine qS_goes S_M_23 R_M_23 H (fun x_24 M_24 r_M_24 H S_M_24 R_M_24 u => ?_)
  replace hF := hF.trans (q_ste2 u)
  refine And.intro (fun c1 => ?_) (fun c1 => ?_)
  · replace H := H.1 c1
    replace hF := hF.trans (if_pos c1)
    exact K _ _ _ H S_M_24 R_M_24 hF
  · replace H := H.2 c1
    replace hF := hF.trans (if_neg c1)
    obtain ⟨m, H⟩ := H
    refine ⟨m, ?_⟩
    exact qS_foreign_23 m S_M_24 R_M_24 H (fun x M1 r1 q1 q2 q3 u => K x M1 r1 q1 q2 q3 (hF.trans u))
set_option maxRecDepth 100000 in
noncomputable def qF_leaves_149 (x1 : Int32) (x2 : Int32) (x3 : Int32) (r : q_R) : ((Int32 × Int32 × Int32 × q_R) ⊕ q_R) := (q_st (x3 + 1) (fun (x_1 : Int32) => (.inl (x1, x2, x_1, r))))
set_option maxRecDepth 100000 in
theorem qE_leaves_149 (x1 : Int32) (x2 : Int32) (x3 : Int32) (r : q_R) : qF_leaves_149 x1 x2 x3 r = (q_st (x3 + 1) (fun (x_1 : Int32) => (.inl (x1, x2, x_1, r)))) := rfl
set_option maxRecDepth 100000 in
set_option maxHeartbeats 4000000 in
theorem qS_leaves_149 {n : Nat} {Q Post : z_Mem → Prop} {QJ33 PJ33 : Int32 → Int32 → Int32 → z_Mem → Prop} {x1 : Int32} {x2 : Int32} {x3 : Int32} {M : z_Mem} {r : q_R} (S : y_S n M) (R : q_rep n M r) (H : P_X12_leaves_149 (n + 40) Q QJ33 x1 x2 x3 M) (K : ∀ M1 r1, Q M1 → y_S n M1 → q_rep n M1 r1 → qF_leaves_149 x1 x2 x3 r = (.inr r1) → Post M1) (KJ33 : ∀ v0 v1 v2 M1 r1, QJ33 v0 v1 v2 M1 → y_S n M1 → q_rep n M1 r1 → qF_leaves_149 x1 x2 x3 r = (.inl (v0, v1, v2, r1)) → PJ33 v0 v1 v2 M1) : P_X12_leaves_149 (n + 40) Post PJ33 x1 x2 x3 M := by
  have hF := qE_leaves_149 x1 x2 x3 r
  unfold P_X12_leaves_149 at H ⊢
  intro x_1 e_x_1
  replace H := H x_1 e_x_1
  replace hF := hF.trans (q_ste e_x_1)
  exact KJ33 _ _ _ _ _ H S R hF
set_option maxRecDepth 100000 in
noncomputable def qF_leaves_137 (x1 : Int32) (x2 : Int32) (x3 : Int32) (t0 : Nat) (t1 : Int32) (t2 : Int32) (t3 : Int32) (r : q_R) : ((Int32 × Int32 × Int32 × q_R) ⊕ q_R) := (q_st (ua r t0 (t1 : Int32).toNatClampNeg (t2 + t3)) (fun r1 => (q_st (uf r1 1554 ((r1.1 1554) + 1)) (fun r2 => (qF_leaves_149 x1 x2 x3 r2)))))
set_option maxRecDepth 100000 in
theorem qE_leaves_137 (x1 : Int32) (x2 : Int32) (x3 : Int32) (t0 : Nat) (t1 : Int32) (t2 : Int32) (t3 : Int32) (r : q_R) : qF_leaves_137 x1 x2 x3 t0 t1 t2 t3 r = (q_st (ua r t0 (t1 : Int32).toNatClampNeg (t2 + t3)) (fun r1 => (q_st (uf r1 1554 ((r1.1 1554) + 1)) (fun r2 => (qF_leaves_149 x1 x2 x3 r2))))) := rfl
set_option maxRecDepth 100000 in
set_option maxHeartbeats 4000000 in
theorem qS_leaves_137 {n : Nat} {Q Post : z_Mem → Prop} {QJ33 PJ33 : Int32 → Int32 → Int32 → z_Mem → Prop} {x1 : Int32} {x2 : Int32} {x3 : Int32} {t1 : Int32} {t2 : Int32} {t3 : Int32} {t0 : Nat} {o_t0 : Option Nat} {M : z_Mem} {r : q_R} (h0_t0 : 41 ≤ t0) (h1_t0 : t0 < 107) (ho_t0 : o_t0 = some (n + t0)) (S : y_S n M) (R : q_rep n M r) (H : P_X12_leaves_137 (n + 40) Q QJ33 x1 x2 x3 o_t0 t1 t2 t3 M) (K : ∀ M1 r1, Q M1 → y_S n M1 → q_rep n M1 r1 → qF_leaves_137 x1 x2 x3 t0 t1 t2 t3 r = (.inr r1) → Post M1) (KJ33 : ∀ v0 v1 v2 M1 r1, QJ33 v0 v1 v2 M1 → y_S n M1 → q_rep n M1 r1 → qF_leaves_137 x1 x2 x3 t0 t1 t2 t3 r = (.inl (v0, v1, v2, r1)) → PJ33 v0 v1 v2 M1) : P_X12_leaves_137 (n + 40) Post PJ33 x1 x2 x3 o_t0 t1 t2 t3 M := by
  subst ho_t0
  have hF := qE_leaves_137 x1 x2 x3 t0 t1 t2 t3 r
  unfold P_X12_leaves_137 at H ⊢
  replace H := z_nne rfl H
  refine z_nn_of rfl ?_
  refine And.intro H.1 ?_
  replace H := H.2
  intro M_4 e_M_4
  replace H := H M_4 e_M_4
  have S_M_4 : y_S n M_4 := by rw [e_M_4]; exact S_sai S
  have R_M_4 := rep_sai R h0_t0 h1_t0 e_M_4
  obtain ⟨r_M_4, h_M_4⟩ := q_gen R_M_4
  replace hF := hF.trans (q_ste h_M_4.2)
  replace R_M_4 := h_M_4.1
  try simp only [qf_1554 R_M_4] at H ⊢
  intro M_6 e_M_6
  replace H := H M_6 e_M_6
  have S_M_6 : y_S n M_6 := by rw [e_M_6]; exact S_sfi S_M_4
  have R_M_6 := rep_sfi R_M_4 e_M_6
  obtain ⟨r_M_6, h_M_6⟩ := q_gen R_M_6
  replace hF := hF.trans (q_ste h_M_6.2)
  replace R_M_6 := h_M_6.1
  exact qS_leaves_149 S_M_6 R_M_6 H (fun M1 r1 q1 q2 q3 u => K M1 r1 q1 q2 q3 (hF.trans u)) (fun v0 v1 v2 M1 r1 q1 q2 q3 u => KJ33 v0 v1 v2 M1 r1 q1 q2 q3 (hF.trans u))
set_option maxRecDepth 100000 in
noncomputable def qF_leaves_90 (x1 : Int32) (x2 : Int32) (x3 : Int32) (x4 : Int32) (x5 : Int32) (t0 : Nat) (t1 : Int32) (t2 : Int32) (t3 : Int32) (r : q_R) : ((Int32 × Int32 × Int32 × q_R) ⊕ q_R) := (q_st (ua r t0 (t1 : Int32).toNatClampNeg (t2 - t3)) (fun r1 => (q_st (ua r1 55 ((r1.1 1554) : Int32).toNatClampNeg x4) (fun r2 => (if (x5 = 0) then (qF_leaves_137 x1 x2 x3 56 (r2.1 1554) ((r2.1 1536) + (r2.2 41 (x1 : Int32).toNatClampNeg)) 0 r2) else (qF_leaves_137 x1 x2 x3 56 (r2.1 1554) ((r2.1 1536) + (r2.2 41 (x1 : Int32).toNatClampNeg)) (r2.2 49 (x1 : Int32).toNatClampNeg) r2))))))
set_option maxRecDepth 100000 in
theorem qE_leaves_90 (x1 : Int32) (x2 : Int32) (x3 : Int32) (x4 : Int32) (x5 : Int32) (t0 : Nat) (t1 : Int32) (t2 : Int32) (t3 : Int32) (r : q_R) : qF_leaves_90 x1 x2 x3 x4 x5 t0 t1 t2 t3 r = (q_st (ua r t0 (t1 : Int32).toNatClampNeg (t2 - t3)) (fun r1 => (q_st (ua r1 55 ((r1.1 1554) : Int32).toNatClampNeg x4) (fun r2 => (if (x5 = 0) then (qF_leaves_137 x1 x2 x3 56 (r2.1 1554) ((r2.1 1536) + (r2.2 41 (x1 : Int32).toNatClampNeg)) 0 r2) else (qF_leaves_137 x1 x2 x3 56 (r2.1 1554) ((r2.1 1536) + (r2.2 41 (x1 : Int32).toNatClampNeg)) (r2.2 49 (x1 : Int32).toNatClampNeg) r2)))))) := rfl
set_option maxRecDepth 100000 in
set_option maxHeartbeats 4000000 in
theorem qS_leaves_90 {n : Nat} {Q Post : z_Mem → Prop} {QJ33 PJ33 : Int32 → Int32 → Int32 → z_Mem → Prop} {x1 : Int32} {x2 : Int32} {x3 : Int32} {x4 : Int32} {x5 : Int32} {t1 : Int32} {t2 : Int32} {t3 : Int32} {t0 : Nat} {o_t0 : Option Nat} {M : z_Mem} {r : q_R} (h0_t0 : 41 ≤ t0) (h1_t0 : t0 < 107) (ho_t0 : o_t0 = some (n + t0)) (S : y_S n M) (R : q_rep n M r) (H : P_X12_leaves_90 (n + 40) Q QJ33 x1 x2 x3 x4 x5 o_t0 t1 t2 t3 M) (K : ∀ M1 r1, Q M1 → y_S n M1 → q_rep n M1 r1 → qF_leaves_90 x1 x2 x3 x4 x5 t0 t1 t2 t3 r = (.inr r1) → Post M1) (KJ33 : ∀ v0 v1 v2 M1 r1, QJ33 v0 v1 v2 M1 → y_S n M1 → q_rep n M1 r1 → qF_leaves_90 x1 x2 x3 x4 x5 t0 t1 t2 t3 r = (.inl (v0, v1, v2, r1)) → PJ33 v0 v1 v2 M1) : P_X12_leaves_90 (n + 40) Post PJ33 x1 x2 x3 x4 x5 o_t0 t1 t2 t3 M := by
  subst ho_t0
  have hF := qE_leaves_90 x1 x2 x3 x4 x5 t0 t1 t2 t3 r
  unfold P_X12_leaves_90 at H ⊢
  replace H := z_nne rfl H
  refine z_nn_of rfl ?_
  refine And.intro H.1 ?_
  replace H := H.2
  intro M_9 e_M_9
  replace H := H M_9 e_M_9
  have S_M_9 : y_S n M_9 := by rw [e_M_9]; exact S_sai S
  have R_M_9 := rep_sai R h0_t0 h1_t0 e_M_9
  obtain ⟨r_M_9, h_M_9⟩ := q_gen R_M_9
  replace hF := hF.trans (q_ste h_M_9.2)
  replace R_M_9 := h_M_9.1
  replace H := z_nne (s_1552_40 S_M_9) H
  refine z_nn_of (s_1552_40 S_M_9) ?_
  refine And.intro H.1 ?_
  replace H := H.2
  try simp only [qf_1554 R_M_9] at H ⊢
  intro M_14 e_M_14
  replace H := H M_14 e_M_14
  have S_M_14 : y_S n M_14 := by rw [e_M_14]; exact S_sai S_M_9
  have R_M_14 := rep_sai R_M_9 (by decide) (by decide) e_M_14
  obtain ⟨r_M_14, h_M_14⟩ := q_gen R_M_14
  replace hF := hF.trans (q_ste h_M_14.2)
  replace R_M_14 := h_M_14.1
  replace H := z_nne (s_1537_40 S_M_14) H
  refine z_nn_of (s_1537_40 S_M_14) ?_
  refine And.intro H.1 ?_
  replace H := H.2
  refine And.intro (fun c1 => ?_) (fun c1 => ?_)
  · replace H := H.1 c1
    replace hF := hF.trans (if_pos c1)
    try simp only [qf_1554 R_M_14, qa_41 R_M_14, qf_1536 R_M_14] at H ⊢
    exact qS_leaves_137 (by decide) (by decide) (s_1553_40 S_M_14) S_M_14 R_M_14 H (fun M1 r1 q1 q2 q3 u => K M1 r1 q1 q2 q3 (hF.trans u)) (fun v0 v1 v2 M1 r1 q1 q2 q3 u => KJ33 v0 v1 v2 M1 r1 q1 q2 q3 (hF.trans u))
  · replace H := H.2 c1
    replace hF := hF.trans (if_neg c1)
    replace H := z_nne (s_1545_40 S_M_14) H
    refine z_nn_of (s_1545_40 S_M_14) ?_
    refine And.intro H.1 ?_
    replace H := H.2
    try simp only [qf_1554 R_M_14, qa_41 R_M_14, qf_1536 R_M_14, qa_49 R_M_14] at H ⊢
    exact qS_leaves_137 (by decide) (by decide) (s_1553_40 S_M_14) S_M_14 R_M_14 H (fun M1 r1 q1 q2 q3 u => K M1 r1 q1 q2 q3 (hF.trans u)) (fun v0 v1 v2 M1 r1 q1 q2 q3 u => KJ33 v0 v1 v2 M1 r1 q1 q2 q3 (hF.trans u))
set_option maxRecDepth 100000 in
noncomputable def qF_leaves_71 (x1 : Int32) (x2 : Int32) (x3 : Int32) (x4 : Int32) (t0 : Int32) (r : q_R) : ((Int32 × Int32 × Int32 × q_R) ⊕ q_R) := (if (t0 = 0) then (qF_leaves_90 x1 x2 x3 x4 t0 48 x1 (r.2 48 (x1 : Int32).toNatClampNeg) 0 r) else (qF_leaves_90 x1 x2 x3 x4 t0 48 x1 (r.2 48 (x1 : Int32).toNatClampNeg) 1 r))
set_option maxRecDepth 100000 in
theorem qE_leaves_71 (x1 : Int32) (x2 : Int32) (x3 : Int32) (x4 : Int32) (t0 : Int32) (r : q_R) : qF_leaves_71 x1 x2 x3 x4 t0 r = (if (t0 = 0) then (qF_leaves_90 x1 x2 x3 x4 t0 48 x1 (r.2 48 (x1 : Int32).toNatClampNeg) 0 r) else (qF_leaves_90 x1 x2 x3 x4 t0 48 x1 (r.2 48 (x1 : Int32).toNatClampNeg) 1 r)) := rfl
set_option maxRecDepth 100000 in
set_option maxHeartbeats 4000000 in
theorem qS_leaves_71 {n : Nat} {Q Post : z_Mem → Prop} {QJ33 PJ33 : Int32 → Int32 → Int32 → z_Mem → Prop} {x1 : Int32} {x2 : Int32} {x3 : Int32} {x4 : Int32} {t0 : Int32} {M : z_Mem} {r : q_R} (S : y_S n M) (R : q_rep n M r) (H : P_X12_leaves_71 (n + 40) Q QJ33 x1 x2 x3 x4 t0 M) (K : ∀ M1 r1, Q M1 → y_S n M1 → q_rep n M1 r1 → qF_leaves_71 x1 x2 x3 x4 t0 r = (.inr r1) → Post M1) (KJ33 : ∀ v0 v1 v2 M1 r1, QJ33 v0 v1 v2 M1 → y_S n M1 → q_rep n M1 r1 → qF_leaves_71 x1 x2 x3 x4 t0 r = (.inl (v0, v1, v2, r1)) → PJ33 v0 v1 v2 M1) : P_X12_leaves_71 (n + 40) Post PJ33 x1 x2 x3 x4 t0 M := by
  have hF := qE_leaves_71 x1 x2 x3 x4 t0 r
  unfold P_X12_leaves_71 at H ⊢
  replace H := z_nne (s_1544_40 S) H
  refine z_nn_of (s_1544_40 S) ?_
  refine And.intro H.1 ?_
  replace H := H.2
  refine And.intro (fun c1 => ?_) (fun c1 => ?_)
  · replace H := H.1 c1
    replace hF := hF.trans (if_pos c1)
    try simp only [qa_48 R] at H ⊢
    exact qS_leaves_90 (by decide) (by decide) (s_1544_40 S) S R H (fun M1 r1 q1 q2 q3 u => K M1 r1 q1 q2 q3 (hF.trans u)) (fun v0 v1 v2 M1 r1 q1 q2 q3 u => KJ33 v0 v1 v2 M1 r1 q1 q2 q3 (hF.trans u))
  · replace H := H.2 c1
    replace hF := hF.trans (if_neg c1)
    try simp only [qa_48 R] at H ⊢
    exact qS_leaves_90 (by decide) (by decide) (s_1544_40 S) S R H (fun M1 r1 q1 q2 q3 u => K M1 r1 q1 q2 q3 (hF.trans u)) (fun v0 v1 v2 M1 r1 q1 q2 q3 u => KJ33 v0 v1 v2 M1 r1 q1 q2 q3 (hF.trans u))
set_option maxRecDepth 100000 in
noncomputable def qB_leaves_157 (x1 : Int32) (x2 : Int32) (x3 : Int32) (r : q_R) : (Int32 × Int32 × Int32 × q_R) ⊕ q_R := (if ((r.2 51 (x1 : Int32).toNatClampNeg) ≤ x3) then (q_st (ua r 51 (x1 : Int32).toNatClampNeg ((r.2 51 (x1 : Int32).toNatClampNeg) - x2)) (fun r1 => (.inr r1))) else (q_st (ua r 50 ((((30 * x1) + x3) - x2) : Int32).toNatClampNeg (r.2 50 (((30 * x1) + x3) : Int32).toNatClampNeg)) (fun r2 => (q_st (x3 + 1) (fun (x_45 : Int32) => (.inl (x1, x2, x_45, r2)))))))
set_option maxRecDepth 100000 in
noncomputable def qF_leaves_157 (x1 : Int32) (x2 : Int32) (x3 : Int32) (r : q_R) : q_R := q_lp (X := (Int32 × Int32 × Int32 × q_R)) (Y := q_R) r (fun t => qB_leaves_157 t.1 t.2.1 t.2.2.1 t.2.2.2) (x1, x2, x3, r)
set_option maxRecDepth 100000 in
theorem qUl_leaves_157 {x1 : Int32} {x2 : Int32} {x3 : Int32} {r : q_R} {y_x1 : Int32} {y_x2 : Int32} {y_x3 : Int32} {r1 : q_R} (h : qB_leaves_157 x1 x2 x3 r = .inl (y_x1, y_x2, y_x3, r1)) : qF_leaves_157 x1 x2 x3 r = qF_leaves_157 y_x1 y_x2 y_x3 r1 := q_lpl (step := fun t => qB_leaves_157 t.1 t.2.1 t.2.2.1 t.2.2.2) h
set_option maxRecDepth 100000 in
theorem qUr_leaves_157 {x1 : Int32} {x2 : Int32} {x3 : Int32} {r : q_R} {y : q_R} (h : qB_leaves_157 x1 x2 x3 r = .inr y) : qF_leaves_157 x1 x2 x3 r = y := q_lpr (step := fun t => qB_leaves_157 t.1 t.2.1 t.2.2.1 t.2.2.2) h
set_option maxRecDepth 100000 in
theorem qE_leaves_157 (x1 : Int32) (x2 : Int32) (x3 : Int32) (r : q_R) : qB_leaves_157 x1 x2 x3 r = (if ((r.2 51 (x1 : Int32).toNatClampNeg) ≤ x3) then (q_st (ua r 51 (x1 : Int32).toNatClampNeg ((r.2 51 (x1 : Int32).toNatClampNeg) - x2)) (fun r1 => (.inr r1))) else (q_st (ua r 50 ((((30 * x1) + x3) - x2) : Int32).toNatClampNeg (r.2 50 (((30 * x1) + x3) : Int32).toNatClampNeg)) (fun r2 => (q_st (x3 + 1) (fun (x_45 : Int32) => (.inl (x1, x2, x_45, r2))))))) := rfl
set_option maxRecDepth 100000 in
set_option maxHeartbeats 4000000 in
theorem qS_leaves_157 {n : Nat} {Q Post : z_Mem → Prop} : ∀ (m : Nat) {x1 : Int32} {x2 : Int32} {x3 : Int32} {M : z_Mem} {r : q_R} (S : y_S n M) (R : q_rep n M r) (H : P_X12_leaves_157 (n + 40) Q m x1 x2 x3 M) (K : ∀ M1 r1, Q M1 → y_S n M1 → q_rep n M1 r1 → qF_leaves_157 x1 x2 x3 r = r1 → Post M1), P_X12_leaves_157 (n + 40) Post m x1 x2 x3 M := by
  intro m
  induction m with
  | zero => intros; rename_i H _; exact False.elim H
  | succ m ih =>
    intro x1 x2 x3 M r S R H K
    have hF := qE_leaves_157 x1 x2 x3 r
    unfold P_X12_leaves_157 at H ⊢
    replace H := z_nne (s_1547_40 S) H
    refine z_nn_of (s_1547_40 S) ?_
    refine And.intro H.1 ?_
    replace H := H.2
    try simp only [qa_51 R] at H ⊢
    refine And.intro (fun c1 => ?_) (fun c1 => ?_)
    · replace H := H.1 c1
      replace hF := hF.trans (if_pos c1)
      replace H := z_nne (s_1547_40 S) H
      refine z_nn_of (s_1547_40 S) ?_
      refine And.intro H.1 ?_
      replace H := H.2
      refine And.intro H.1 ?_
      replace H := H.2
      try simp only [qa_51 R] at H ⊢
      intro M_37 e_M_37
      replace H := H M_37 e_M_37
      have S_M_37 : y_S n M_37 := by rw [e_M_37]; exact S_sai S
      have R_M_37 := rep_sai R (by decide) (by decide) e_M_37
      obtain ⟨r_M_37, h_M_37⟩ := q_gen R_M_37
      replace hF := hF.trans (q_ste h_M_37.2)
      replace R_M_37 := h_M_37.1
      exact K _ _ H S_M_37 R_M_37 (qUr_leaves_157 hF)
    · replace H := H.2 c1
      replace hF := hF.trans (if_neg c1)
      replace H := z_nne (s_1546_40 S) H
      refine z_nn_of (s_1546_40 S) ?_
      refine And.intro H.1 ?_
      replace H := H.2
      replace H := z_nne (s_1546_40 S) H
      refine z_nn_of (s_1546_40 S) ?_
      refine And.intro H.1 ?_
      replace H := H.2
      try simp only [qa_50 R] at H ⊢
      intro M_44 e_M_44
      replace H := H M_44 e_M_44
      have S_M_44 : y_S n M_44 := by rw [e_M_44]; exact S_sai S
      have R_M_44 := rep_sai R (by decide) (by decide) e_M_44
      obtain ⟨r_M_44, h_M_44⟩ := q_gen R_M_44
      replace hF := hF.trans (q_ste h_M_44.2)
      replace R_M_44 := h_M_44.1
      intro x_45 e_x_45
      replace H := H x_45 e_x_45
      replace hF := hF.trans (q_ste e_x_45)
      replace hF := qUl_leaves_157 hF
      exact ih S_M_44 R_M_44 H (fun M1 r1 q1 q2 q3 u => K M1 r1 q1 q2 q3 (hF.trans u))
set_option maxRecDepth 100000 in
noncomputable def qB_leaves_33 (x1 : Int32) (x2 : Int32) (x3 : Int32) (r : q_R) : (Int32 × Int32 × Int32 × q_R) ⊕ q_R := (if (x2 ≤ x3) then (.inr (qF_leaves_157 x1 x2 x2 r)) else (q_st (r.2 50 (((30 * x1) + x3) : Int32).toNatClampNeg) (fun (x_51 : Int32) => (if (x_51 = (-1)) then (qF_leaves_149 x1 x2 x3 r) else (if ((r.2 48 (x1 : Int32).toNatClampNeg) ≤ 0) then (qF_leaves_71 x1 x2 x3 x_51 0 r) else (qF_leaves_71 x1 x2 x3 x_51 1 r))))))
set_option maxRecDepth 100000 in
noncomputable def qF_leaves_33 (x1 : Int32) (x2 : Int32) (x3 : Int32) (r : q_R) : q_R := q_lp (X := (Int32 × Int32 × Int32 × q_R)) (Y := q_R) r (fun t => qB_leaves_33 t.1 t.2.1 t.2.2.1 t.2.2.2) (x1, x2, x3, r)
set_option maxRecDepth 100000 in
theorem qUl_leaves_33 {x1 : Int32} {x2 : Int32} {x3 : Int32} {r : q_R} {y_x1 : Int32} {y_x2 : Int32} {y_x3 : Int32} {r1 : q_R} (h : qB_leaves_33 x1 x2 x3 r = .inl (y_x1, y_x2, y_x3, r1)) : qF_leaves_33 x1 x2 x3 r = qF_leaves_33 y_x1 y_x2 y_x3 r1 := q_lpl (step := fun t => qB_leaves_33 t.1 t.2.1 t.2.2.1 t.2.2.2) h
set_option maxRecDepth 100000 in
theorem qUr_leaves_33 {x1 : Int32} {x2 : Int32} {x3 : Int32} {r : q_R} {y : q_R} (h : qB_leaves_33 x1 x2 x3 r = .inr y) : qF_leaves_33 x1 x2 x3 r = y := q_lpr (step := fun t => qB_leaves_33 t.1 t.2.1 t.2.2.1 t.2.2.2) h
set_option maxRecDepth 100000 in
theorem qE_leaves_33 (x1 : Int32) (x2 : Int32) (x3 : Int32) (r : q_R) : qB_leaves_33 x1 x2 x3 r = (if (x2 ≤ x3) then (.inr (qF_leaves_157 x1 x2 x2 r)) else (q_st (r.2 50 (((30 * x1) + x3) : Int32).toNatClampNeg) (fun (x_51 : Int32) => (if (x_51 = (-1)) then (qF_leaves_149 x1 x2 x3 r) else (if ((r.2 48 (x1 : Int32).toNatClampNeg) ≤ 0) then (qF_leaves_71 x1 x2 x3 x_51 0 r) else (qF_leaves_71 x1 x2 x3 x_51 1 r)))))) := rfl
set_option maxRecDepth 100000 in
set_option maxHeartbeats 4000000 in
theorem qS_leaves_33 {n : Nat} {Q Post : z_Mem → Prop} : ∀ (m : Nat) {x1 : Int32} {x2 : Int32} {x3 : Int32} {M : z_Mem} {r : q_R} (S : y_S n M) (R : q_rep n M r) (H : P_X12_leaves_33 (n + 40) Q m x1 x2 x3 M) (K : ∀ M1 r1, Q M1 → y_S n M1 → q_rep n M1 r1 → qF_leaves_33 x1 x2 x3 r = r1 → Post M1), P_X12_leaves_33 (n + 40) Post m x1 x2 x3 M := by
  intro m
  induction m with
  | zero => intros; rename_i H _; exact False.elim H
  | succ m ih =>
    intro x1 x2 x3 M r S R H K
    have hF := qE_leaves_33 x1 x2 x3 r
    unfold P_X12_leaves_33 at H ⊢
    refine And.intro (fun c1 => ?_) (fun c1 => ?_)
    · replace H := H.1 c1
      replace hF := hF.trans (if_pos c1)
      obtain ⟨m, H⟩ := H
      refine ⟨m, ?_⟩
      exact qS_leaves_157 m S R H (fun M1 r1 q1 q2 q3 u => K M1 r1 q1 q2 q3 (qUr_leaves_33 (hF.trans (congrArg Sum.inr u))))
    · replace H := H.2 c1
      replace hF := hF.trans (if_neg c1)
      replace H := z_nne (s_1546_40 S) H
      refine z_nn_of (s_1546_40 S) ?_
      refine And.intro H.1 ?_
      replace H := H.2
      try simp only [qa_50 R] at H ⊢
      intro x_51 e_x_51
      replace H := H x_51 e_x_51
      replace hF := hF.trans (q_ste e_x_51)
      refine And.intro (fun c2 => ?_) (fun c2 => ?_)
      · replace H := H.1 c2
        replace hF := hF.trans (if_pos c2)
        exact qS_leaves_149 S R H (fun M1 r1 q1 q2 q3 u => K M1 r1 q1 q2 q3 (qUr_leaves_33 (hF.trans u))) (fun v0 v1 v2 M1 r1 q1 q2 q3 u => ih q2 q3 q1 (fun M1 r1 q1 q2 q3 u2 => K M1 r1 q1 q2 q3 ((qUl_leaves_33 (hF.trans u)).trans u2))) 
      · replace H := H.2 c2
        replace hF := hF.trans (if_neg c2)
        replace H := z_nne (s_1544_40 S) H
        refine z_nn_of (s_1544_40 S) ?_
        refine And.intro H.1 ?_
        replace H := H.2
        try simp only [qa_48 R] at H ⊢
        refine And.intro (fun c3 => ?_) (fun c3 => ?_)
        · replace H := H.1 c3
          replace hF := hF.trans (if_pos c3)
          exact qS_leaves_71 S R H (fun M1 r1 q1 q2 q3 u => K M1 r1 q1 q2 q3 (qUr_leaves_33 (hF.trans u))) (fun v0 v1 v2 M1 r1 q1 q2 q3 u => ih q2 q3 q1 (fun M1 r1 q1 q2 q3 u2 => K M1 r1 q1 q2 q3 ((qUl_leaves_33 (hF.trans u)).trans u2))) 
        · replace H := H.2 c3
          replace hF := hF.trans (if_neg c3)
          exact qS_leaves_71 S R H (fun M1 r1 q1 q2 q3 u => K M1 r1 q1 q2 q3 (qUr_leaves_33 (hF.trans u))) (fun v0 v1 v2 M1 r1 q1 q2 q3 u => ih q2 q3 q1 (fun M1 r1 q1 q2 q3 u2 => K M1 r1 q1 q2 q3 ((qUl_leaves_33 (hF.trans u)).trans u2))) 
