/-! ===== THE REFERENCE as functions on its cells, 3 ===== -/
set_option maxRecDepth 100000 in
noncomputable def qB_loseState_12 (x1 : Int32) (r : q_R) : (Int32 × q_R) ⊕ q_R := (if (400 ≤ x1) then (q_st (uf r 1572 (-1)) (fun r1 => (q_st (uf r1 1573 0) (fun r2 => (q_st (uf r2 1574 (-1)) (fun r3 => (q_st (uf r3 1575 (-1)) (fun r4 => (q_st (uf r4 1576 0) (fun r5 => (.inr r5))))))))))) else (q_st (ua r 63 (x1 : Int32).toNatClampNeg 0) (fun r6 => (q_st (x1 + 1) (fun (x_11 : Int32) => (.inl (x_11, r6)))))))
set_option maxRecDepth 100000 in
noncomputable def qF_loseState_12 (x1 : Int32) (r : q_R) : q_R := q_lp (X := (Int32 × q_R)) (Y := q_R) r (fun t => qB_loseState_12 t.1 t.2) (x1, r)
set_option maxRecDepth 100000 in
theorem qUl_loseState_12 {x1 : Int32} {r : q_R} {y_x1 : Int32} {r1 : q_R} (h : qB_loseState_12 x1 r = .inl (y_x1, r1)) : qF_loseState_12 x1 r = qF_loseState_12 y_x1 r1 := q_lpl (step := fun t => qB_loseState_12 t.1 t.2) h
set_option maxRecDepth 100000 in
theorem qUr_loseState_12 {x1 : Int32} {r : q_R} {y : q_R} (h : qB_loseState_12 x1 r = .inr y) : qF_loseState_12 x1 r = y := q_lpr (step := fun t => qB_loseState_12 t.1 t.2) h
set_option maxRecDepth 100000 in
theorem qE_loseState_12 (x1 : Int32) (r : q_R) : qB_loseState_12 x1 r = (if (400 ≤ x1) then (q_st (uf r 1572 (-1)) (fun r1 => (q_st (uf r1 1573 0) (fun r2 => (q_st (uf r2 1574 (-1)) (fun r3 => (q_st (uf r3 1575 (-1)) (fun r4 => (q_st (uf r4 1576 0) (fun r5 => (.inr r5))))))))))) else (q_st (ua r 63 (x1 : Int32).toNatClampNeg 0) (fun r6 => (q_st (x1 + 1) (fun (x_11 : Int32) => (.inl (x_11, r6))))))) := rfl
set_option maxRecDepth 100000 in
set_option maxHeartbeats 4000000 in
theorem qS_loseState_12 {n : Nat} {Q Post : z_Mem → Prop} : ∀ (m : Nat) {x1 : Int32} {M : z_Mem} {r : q_R} (S : y_S n M) (R : q_rep n M r) (H : P_X12_loseState_12 (n + 40) Q m x1 M) (K : ∀ M1 r1, Q M1 → y_S n M1 → q_rep n M1 r1 → qF_loseState_12 x1 r = r1 → Post M1), P_X12_loseState_12 (n + 40) Post m x1 M := by
  intro m
  induction m with
  | zero => intros; rename_i H _; exact False.elim H
  | succ m ih =>
    intro x1 M r S R H K
    have hF := qE_loseState_12 x1 r
    unfold P_X12_loseState_12 at H ⊢
    refine And.intro (fun c1 => ?_) (fun c1 => ?_)
    · replace H := H.1 c1
      replace hF := hF.trans (if_pos c1)
      intro M_2 e_M_2
      replace H := H M_2 e_M_2
      have S_M_2 : y_S n M_2 := by rw [e_M_2]; exact S_sfi S
      have R_M_2 := rep_sfi R e_M_2
      obtain ⟨r_M_2, h_M_2⟩ := q_gen R_M_2
      replace hF := hF.trans (q_ste h_M_2.2)
      replace R_M_2 := h_M_2.1
      intro M_3 e_M_3
      replace H := H M_3 e_M_3
      have S_M_3 : y_S n M_3 := by rw [e_M_3]; exact S_sfi S_M_2
      have R_M_3 := rep_sfi R_M_2 e_M_3
      obtain ⟨r_M_3, h_M_3⟩ := q_gen R_M_3
      replace hF := hF.trans (q_ste h_M_3.2)
      replace R_M_3 := h_M_3.1
      intro M_4 e_M_4
      replace H := H M_4 e_M_4
      have S_M_4 : y_S n M_4 := by rw [e_M_4]; exact S_sfi S_M_3
      have R_M_4 := rep_sfi R_M_3 e_M_4
      obtain ⟨r_M_4, h_M_4⟩ := q_gen R_M_4
      replace hF := hF.trans (q_ste h_M_4.2)
      replace R_M_4 := h_M_4.1
      intro M_5 e_M_5
      replace H := H M_5 e_M_5
      have S_M_5 : y_S n M_5 := by rw [e_M_5]; exact S_sfi S_M_4
      have R_M_5 := rep_sfi R_M_4 e_M_5
      obtain ⟨r_M_5, h_M_5⟩ := q_gen R_M_5
      replace hF := hF.trans (q_ste h_M_5.2)
      replace R_M_5 := h_M_5.1
      intro M_6 e_M_6
      replace H := H M_6 e_M_6
      have S_M_6 : y_S n M_6 := by rw [e_M_6]; exact S_sfi S_M_5
      have R_M_6 := rep_sfi R_M_5 e_M_6
      obtain ⟨r_M_6, h_M_6⟩ := q_gen R_M_6
      replace hF := hF.trans (q_ste h_M_6.2)
      replace R_M_6 := h_M_6.1
      exact K _ _ H S_M_6 R_M_6 (qUr_loseState_12 hF)
    · replace H := H.2 c1
      replace hF := hF.trans (if_neg c1)
      replace H := z_nne (s_1569_40 S) H
      refine z_nn_of (s_1569_40 S) ?_
      refine And.intro H.1 ?_
      replace H := H.2
      intro M_10 e_M_10
      replace H := H M_10 e_M_10
      have S_M_10 : y_S n M_10 := by rw [e_M_10]; exact S_sai S
      have R_M_10 := rep_sai R (by decide) (by decide) e_M_10
      obtain ⟨r_M_10, h_M_10⟩ := q_gen R_M_10
      replace hF := hF.trans (q_ste h_M_10.2)
      replace R_M_10 := h_M_10.1
      intro x_11 e_x_11
      replace H := H x_11 e_x_11
      replace hF := hF.trans (q_ste e_x_11)
      replace hF := qUl_loseState_12 hF
      exact ih S_M_10 R_M_10 H (fun M1 r1 q1 q2 q3 u => K M1 r1 q1 q2 q3 (hF.trans u))
set_option maxRecDepth 100000 in
noncomputable def qF_loseState (r : q_R) : q_R := (q_st (uf r 1630 0) (fun r1 => (q_st (uf r1 1562 3) (fun r2 => (qF_loseState_12 0 r2)))))
set_option maxRecDepth 100000 in
theorem qE_loseState (r : q_R) : qF_loseState r = (q_st (uf r 1630 0) (fun r1 => (q_st (uf r1 1562 3) (fun r2 => (qF_loseState_12 0 r2))))) := rfl
set_option maxRecDepth 100000 in
set_option maxHeartbeats 4000000 in
theorem qS_loseState {n : Nat} {Q Post : z_Mem → Prop} {M : z_Mem} {r : q_R} (S : y_S n M) (R : q_rep n M r) (H : P_X12_loseState (n + 40) M Q) (K : ∀ M1 r1, Q M1 → y_S n M1 → q_rep n M1 r1 → qF_loseState r = r1 → Post M1) : P_X12_loseState (n + 40) M Post := by
  have hF := qE_loseState r
  unfold P_X12_loseState at H ⊢
  intro M_12 e_M_12
  replace H := H M_12 e_M_12
  have S_M_12 : y_S n M_12 := by rw [e_M_12]; exact S_sfi S
  have R_M_12 := rep_sfi R e_M_12
  obtain ⟨r_M_12, h_M_12⟩ := q_gen R_M_12
  replace hF := hF.trans (q_ste h_M_12.2)
  replace R_M_12 := h_M_12.1
  intro M_13 e_M_13
  replace H := H M_13 e_M_13
  have S_M_13 : y_S n M_13 := by rw [e_M_13]; exact S_sfi S_M_12
  have R_M_13 := rep_sfi R_M_12 e_M_13
  obtain ⟨r_M_13, h_M_13⟩ := q_gen R_M_13
  replace hF := hF.trans (q_ste h_M_13.2)
  replace R_M_13 := h_M_13.1
  obtain ⟨m, H⟩ := H
  refine ⟨m, ?_⟩
  exact qS_loseState_12 m S_M_13 R_M_13 H (fun M1 r1 q1 q2 q3 u => K M1 r1 q1 q2 q3 (hF.trans u))
set_option maxRecDepth 100000 in
noncomputable def qF_measures_105 (x1 : Int32) (x2 : Int32) (t0 : Nat) (t1 : Int32) (t2 : Int32) (t3 : Int32) (r : q_R) : q_R := (q_st (ua r t0 (t1 : Int32).toNatClampNeg (t2 + (t3 - ((r.2 88 (x1 : Int32).toNatClampNeg) / 4)))) (fun r1 => (q_st (ua r1 87 (x1 : Int32).toNatClampNeg ((r1.2 87 (x1 : Int32).toNatClampNeg) + (x2 - ((r1.2 87 (x1 : Int32).toNatClampNeg) / 8)))) (fun r2 => r2))))
set_option maxRecDepth 100000 in
theorem qE_measures_105 (x1 : Int32) (x2 : Int32) (t0 : Nat) (t1 : Int32) (t2 : Int32) (t3 : Int32) (r : q_R) : qF_measures_105 x1 x2 t0 t1 t2 t3 r = (q_st (ua r t0 (t1 : Int32).toNatClampNeg (t2 + (t3 - ((r.2 88 (x1 : Int32).toNatClampNeg) / 4)))) (fun r1 => (q_st (ua r1 87 (x1 : Int32).toNatClampNeg ((r1.2 87 (x1 : Int32).toNatClampNeg) + (x2 - ((r1.2 87 (x1 : Int32).toNatClampNeg) / 8)))) (fun r2 => r2)))) := rfl
set_option maxRecDepth 100000 in
set_option maxHeartbeats 4000000 in
theorem qS_measures_105 {n : Nat} {Q Post : z_Mem → Prop} {x1 : Int32} {x2 : Int32} {t1 : Int32} {t2 : Int32} {t3 : Int32} {t0 : Nat} {o_t0 : Option Nat} {M : z_Mem} {r : q_R} (h0_t0 : 41 ≤ t0) (h1_t0 : t0 < 107) (ho_t0 : o_t0 = some (n + t0)) (S : y_S n M) (R : q_rep n M r) (H : P_X12_measures_105 (n + 40) Q x1 x2 o_t0 t1 t2 t3 M) (K : ∀ M1 r1, Q M1 → y_S n M1 → q_rep n M1 r1 → qF_measures_105 x1 x2 t0 t1 t2 t3 r = r1 → Post M1) : P_X12_measures_105 (n + 40) Post x1 x2 o_t0 t1 t2 t3 M := by
  subst ho_t0
  have hF := qE_measures_105 x1 x2 t0 t1 t2 t3 r
  unfold P_X12_measures_105 at H ⊢
  replace H := z_nne (s_1611_40 S) H
  refine z_nn_of (s_1611_40 S) ?_
  refine And.intro H.1 ?_
  replace H := H.2
  replace H := z_nne rfl H
  refine z_nn_of rfl ?_
  refine And.intro H.1 ?_
  replace H := H.2
  try simp only [qa_88 R] at H ⊢
  intro M_6 e_M_6
  replace H := H M_6 e_M_6
  have S_M_6 : y_S n M_6 := by rw [e_M_6]; exact S_sai S
  have R_M_6 := rep_sai R h0_t0 h1_t0 e_M_6
  obtain ⟨r_M_6, h_M_6⟩ := q_gen R_M_6
  replace hF := hF.trans (q_ste h_M_6.2)
  replace R_M_6 := h_M_6.1
  replace H := z_nne (s_1610_40 S_M_6) H
  refine z_nn_of (s_1610_40 S_M_6) ?_
  refine And.intro H.1 ?_
  replace H := H.2
  replace H := z_nne (s_1610_40 S_M_6) H
  refine z_nn_of (s_1610_40 S_M_6) ?_
  refine And.intro H.1 ?_
  replace H := H.2
  refine And.intro H.1 ?_
  replace H := H.2
  try simp only [qa_87 R_M_6] at H ⊢
  intro M_14 e_M_14
  replace H := H M_14 e_M_14
  have S_M_14 : y_S n M_14 := by rw [e_M_14]; exact S_sai S_M_6
  have R_M_14 := rep_sai R_M_6 (by decide) (by decide) e_M_14
  obtain ⟨r_M_14, h_M_14⟩ := q_gen R_M_14
  replace hF := hF.trans (q_ste h_M_14.2)
  replace R_M_14 := h_M_14.1
  exact K _ _ H S_M_14 R_M_14 hF
set_option maxRecDepth 100000 in
noncomputable def qF_measures_75 (x1 : Int32) (x2 : Int32) (t0 : Nat) (t1 : Int32) (t2 : Int32) (r : q_R) : q_R := (q_st (ua r t0 (t1 : Int32).toNatClampNeg t2) (fun r1 => (q_st (x2 - ((r1.2 87 (x1 : Int32).toNatClampNeg) / 8)) (fun (x_21 : Int32) => (if (0 ≤ x_21) then (qF_measures_105 x1 x2 88 x1 (r1.2 88 (x1 : Int32).toNatClampNeg) x_21 r1) else (qF_measures_105 x1 x2 88 x1 (r1.2 88 (x1 : Int32).toNatClampNeg) (-x_21) r1))))))
set_option maxRecDepth 100000 in
theorem qE_measures_75 (x1 : Int32) (x2 : Int32) (t0 : Nat) (t1 : Int32) (t2 : Int32) (r : q_R) : qF_measures_75 x1 x2 t0 t1 t2 r = (q_st (ua r t0 (t1 : Int32).toNatClampNeg t2) (fun r1 => (q_st (x2 - ((r1.2 87 (x1 : Int32).toNatClampNeg) / 8)) (fun (x_21 : Int32) => (if (0 ≤ x_21) then (qF_measures_105 x1 x2 88 x1 (r1.2 88 (x1 : Int32).toNatClampNeg) x_21 r1) else (qF_measures_105 x1 x2 88 x1 (r1.2 88 (x1 : Int32).toNatClampNeg) (-x_21) r1)))))) := rfl
set_option maxRecDepth 100000 in
set_option maxHeartbeats 4000000 in
theorem qS_measures_75 {n : Nat} {Q Post : z_Mem → Prop} {x1 : Int32} {x2 : Int32} {t1 : Int32} {t2 : Int32} {t0 : Nat} {o_t0 : Option Nat} {M : z_Mem} {r : q_R} (h0_t0 : 41 ≤ t0) (h1_t0 : t0 < 107) (ho_t0 : o_t0 = some (n + t0)) (S : y_S n M) (R : q_rep n M r) (H : P_X12_measures_75 (n + 40) Q x1 x2 o_t0 t1 t2 M) (K : ∀ M1 r1, Q M1 → y_S n M1 → q_rep n M1 r1 → qF_measures_75 x1 x2 t0 t1 t2 r = r1 → Post M1) : P_X12_measures_75 (n + 40) Post x1 x2 o_t0 t1 t2 M := by
  subst ho_t0
  have hF := qE_measures_75 x1 x2 t0 t1 t2 r
  unfold P_X12_measures_75 at H ⊢
  replace H := z_nne rfl H
  refine z_nn_of rfl ?_
  refine And.intro H.1 ?_
  replace H := H.2
  intro M_17 e_M_17
  replace H := H M_17 e_M_17
  have S_M_17 : y_S n M_17 := by rw [e_M_17]; exact S_sai S
  have R_M_17 := rep_sai R h0_t0 h1_t0 e_M_17
  obtain ⟨r_M_17, h_M_17⟩ := q_gen R_M_17
  replace hF := hF.trans (q_ste h_M_17.2)
  replace R_M_17 := h_M_17.1
  replace H := z_nne (s_1610_40 S_M_17) H
  refine z_nn_of (s_1610_40 S_M_17) ?_
  refine And.intro H.1 ?_
  replace H := H.2
  try simp only [qa_87 R_M_17] at H ⊢
  intro x_21 e_x_21
  replace H := H x_21 e_x_21
  replace hF := hF.trans (q_ste e_x_21)
  replace H := z_nne (s_1611_40 S_M_17) H
  refine z_nn_of (s_1611_40 S_M_17) ?_
  refine And.intro H.1 ?_
  replace H := H.2
  refine And.intro (fun c1 => ?_) (fun c1 => ?_)
  · replace H := H.1 c1
    replace hF := hF.trans (if_pos c1)
    try simp only [qa_88 R_M_17] at H ⊢
    exact qS_measures_105 (by decide) (by decide) (s_1611_40 S_M_17) S_M_17 R_M_17 H (fun M1 r1 q1 q2 q3 u => K M1 r1 q1 q2 q3 (hF.trans u))
  · replace H := H.2 c1
    replace hF := hF.trans (if_neg c1)
    try simp only [qa_88 R_M_17] at H ⊢
    exact qS_measures_105 (by decide) (by decide) (s_1611_40 S_M_17) S_M_17 R_M_17 H (fun M1 r1 q1 q2 q3 u => K M1 r1 q1 q2 q3 (hF.trans u))
set_option maxRecDepth 100000 in
noncomputable def qF_measures (p1 : Int32) (p2 : Int32) (r : q_R) : q_R := (q_st (ua r 90 (p1 : Int32).toNatClampNeg p2) (fun r1 => (if ((r1.2 91 (p1 : Int32).toNatClampNeg) = 0) then (q_st (ua r1 91 (p1 : Int32).toNatClampNeg 1) (fun r2 => (q_st (ua r2 87 (p1 : Int32).toNatClampNeg (8 * p2)) (fun r3 => (q_st (ua r3 88 (p1 : Int32).toNatClampNeg (2 * p2)) (fun r4 => (q_st (ua r4 89 (p1 : Int32).toNatClampNeg p2) (fun r5 => r5)))))))) else (if ((r1.2 89 (p1 : Int32).toNatClampNeg) ≤ p2) then (qF_measures_75 p1 p2 89 p1 (r1.2 89 (p1 : Int32).toNatClampNeg) r1) else (qF_measures_75 p1 p2 89 p1 p2 r1)))))
set_option maxRecDepth 100000 in
theorem qE_measures (p1 : Int32) (p2 : Int32) (r : q_R) : qF_measures p1 p2 r = (q_st (ua r 90 (p1 : Int32).toNatClampNeg p2) (fun r1 => (if ((r1.2 91 (p1 : Int32).toNatClampNeg) = 0) then (q_st (ua r1 91 (p1 : Int32).toNatClampNeg 1) (fun r2 => (q_st (ua r2 87 (p1 : Int32).toNatClampNeg (8 * p2)) (fun r3 => (q_st (ua r3 88 (p1 : Int32).toNatClampNeg (2 * p2)) (fun r4 => (q_st (ua r4 89 (p1 : Int32).toNatClampNeg p2) (fun r5 => r5)))))))) else (if ((r1.2 89 (p1 : Int32).toNatClampNeg) ≤ p2) then (qF_measures_75 p1 p2 89 p1 (r1.2 89 (p1 : Int32).toNatClampNeg) r1) else (qF_measures_75 p1 p2 89 p1 p2 r1))))) := rfl
set_option maxRecDepth 100000 in
set_option maxHeartbeats 4000000 in
theorem qS_measures {n : Nat} {Q Post : z_Mem → Prop} {p1 : Int32} {p2 : Int32} {M : z_Mem} {r : q_R} (S : y_S n M) (R : q_rep n M r) (H : P_X12_measures (n + 40) p1 p2 M Q) (K : ∀ M1 r1, Q M1 → y_S n M1 → q_rep n M1 r1 → qF_measures p1 p2 r = r1 → Post M1) : P_X12_measures (n + 40) p1 p2 M Post := by
  have hF := qE_measures p1 p2 r
  unfold P_X12_measures at H ⊢
  replace H := z_nne (s_1613_40 S) H
  refine z_nn_of (s_1613_40 S) ?_
  refine And.intro H.1 ?_
  replace H := H.2
  intro M_29 e_M_29
  replace H := H M_29 e_M_29
  have S_M_29 : y_S n M_29 := by rw [e_M_29]; exact S_sai S
  have R_M_29 := rep_sai R (by decide) (by decide) e_M_29
  obtain ⟨r_M_29, h_M_29⟩ := q_gen R_M_29
  replace hF := hF.trans (q_ste h_M_29.2)
  replace R_M_29 := h_M_29.1
  replace H := z_nne (s_1614_40 S_M_29) H
  refine z_nn_of (s_1614_40 S_M_29) ?_
  refine And.intro H.1 ?_
  replace H := H.2
  try simp only [qa_91 R_M_29] at H ⊢
  refine And.intro (fun c1 => ?_) (fun c1 => ?_)
  · replace H := H.1 c1
    replace hF := hF.trans (if_pos c1)
    replace H := z_nne (s_1614_40 S_M_29) H
    refine z_nn_of (s_1614_40 S_M_29) ?_
    refine And.intro H.1 ?_
    replace H := H.2
    intro M_45 e_M_45
    replace H := H M_45 e_M_45
    have S_M_45 : y_S n M_45 := by rw [e_M_45]; exact S_sai S_M_29
    have R_M_45 := rep_sai R_M_29 (by decide) (by decide) e_M_45
    obtain ⟨r_M_45, h_M_45⟩ := q_gen R_M_45
    replace hF := hF.trans (q_ste h_M_45.2)
    replace R_M_45 := h_M_45.1
    replace H := z_nne (s_1610_40 S_M_45) H
    refine z_nn_of (s_1610_40 S_M_45) ?_
    refine And.intro H.1 ?_
    replace H := H.2
    intro M_49 e_M_49
    replace H := H M_49 e_M_49
    have S_M_49 : y_S n M_49 := by rw [e_M_49]; exact S_sai S_M_45
    have R_M_49 := rep_sai R_M_45 (by decide) (by decide) e_M_49
    obtain ⟨r_M_49, h_M_49⟩ := q_gen R_M_49
    replace hF := hF.trans (q_ste h_M_49.2)
    replace R_M_49 := h_M_49.1
    replace H := z_nne (s_1611_40 S_M_49) H
    refine z_nn_of (s_1611_40 S_M_49) ?_
    refine And.intro H.1 ?_
    replace H := H.2
    intro M_53 e_M_53
    replace H := H M_53 e_M_53
    have S_M_53 : y_S n M_53 := by rw [e_M_53]; exact S_sai S_M_49
    have R_M_53 := rep_sai R_M_49 (by decide) (by decide) e_M_53
    obtain ⟨r_M_53, h_M_53⟩ := q_gen R_M_53
    replace hF := hF.trans (q_ste h_M_53.2)
    replace R_M_53 := h_M_53.1
    replace H := z_nne (s_1612_40 S_M_53) H
    refine z_nn_of (s_1612_40 S_M_53) ?_
    refine And.intro H.1 ?_
    replace H := H.2
    intro M_57 e_M_57
    replace H := H M_57 e_M_57
    have S_M_57 : y_S n M_57 := by rw [e_M_57]; exact S_sai S_M_53
    have R_M_57 := rep_sai R_M_53 (by decide) (by decide) e_M_57
    obtain ⟨r_M_57, h_M_57⟩ := q_gen R_M_57
    replace hF := hF.trans (q_ste h_M_57.2)
    replace R_M_57 := h_M_57.1
    exact K _ _ H S_M_57 R_M_57 hF
  · replace H := H.2 c1
    replace hF := hF.trans (if_neg c1)
    replace H := z_nne (s_1612_40 S_M_29) H
    refine z_nn_of (s_1612_40 S_M_29) ?_
    refine And.intro H.1 ?_
    replace H := H.2
    try simp only [qa_89 R_M_29] at H ⊢
    refine And.intro (fun c2 => ?_) (fun c2 => ?_)
    · replace H := H.1 c2
      replace hF := hF.trans (if_pos c2)
      replace H := z_nne (s_1612_40 S_M_29) H
      refine z_nn_of (s_1612_40 S_M_29) ?_
      refine And.intro H.1 ?_
      replace H := H.2
      try simp only [qa_89 R_M_29] at H ⊢
      exact qS_measures_75 (by decide) (by decide) (s_1612_40 S_M_29) S_M_29 R_M_29 H (fun M1 r1 q1 q2 q3 u => K M1 r1 q1 q2 q3 (hF.trans u))
    · replace H := H.2 c2
      replace hF := hF.trans (if_neg c2)
      exact qS_measures_75 (by decide) (by decide) (s_1612_40 S_M_29) S_M_29 R_M_29 H (fun M1 r1 q1 q2 q3 u => K M1 r1 q1 q2 q3 (hF.trans u))
set_option maxRecDepth 100000 in
noncomputable def qF_inFlight_37 (x1 : Int32) (x3 : Int32) (t0 : Int32) (t1 : Int32) (r : q_R) : ((Int32 × Int32 × Int32 × q_R) ⊕ (Int32 × q_R)) := (q_st (t0 + t1) (fun (x_1 : Int32) => (q_st (x3 + 1) (fun (x_2 : Int32) => (.inl (x1, x_1, x_2, r))))))
set_option maxRecDepth 100000 in
theorem qE_inFlight_37 (x1 : Int32) (x3 : Int32) (t0 : Int32) (t1 : Int32) (r : q_R) : qF_inFlight_37 x1 x3 t0 t1 r = (q_st (t0 + t1) (fun (x_1 : Int32) => (q_st (x3 + 1) (fun (x_2 : Int32) => (.inl (x1, x_1, x_2, r)))))) := rfl
set_option maxRecDepth 100000 in
set_option maxHeartbeats 4000000 in
theorem qS_inFlight_37 {n : Nat} {Q Post : Int32 → z_Mem → Prop} {QJ4 PJ4 : Int32 → Int32 → Int32 → z_Mem → Prop} {x1 : Int32} {x3 : Int32} {t0 : Int32} {t1 : Int32} {M : z_Mem} {r : q_R} (S : y_S n M) (R : q_rep n M r) (H : P_X12_inFlight_37 (n + 40) Q QJ4 x1 x3 t0 t1 M) (K : ∀ x M1 r1, Q x M1 → y_S n M1 → q_rep n M1 r1 → qF_inFlight_37 x1 x3 t0 t1 r = (.inr (x, r1)) → Post x M1) (KJ4 : ∀ v0 v1 v2 M1 r1, QJ4 v0 v1 v2 M1 → y_S n M1 → q_rep n M1 r1 → qF_inFlight_37 x1 x3 t0 t1 r = (.inl (v0, v1, v2, r1)) → PJ4 v0 v1 v2 M1) : P_X12_inFlight_37 (n + 40) Post PJ4 x1 x3 t0 t1 M := by
  have hF := qE_inFlight_37 x1 x3 t0 t1 r
  unfold P_X12_inFlight_37 at H ⊢
  intro x_1 e_x_1
  replace H := H x_1 e_x_1
  replace hF := hF.trans (q_ste e_x_1)
  intro x_2 e_x_2
  replace H := H x_2 e_x_2
  replace hF := hF.trans (q_ste e_x_2)
  exact KJ4 _ _ _ _ _ H S R hF
set_option maxRecDepth 100000 in
noncomputable def qF_inFlight_36 (x1 : Int32) (x3 : Int32) (t0 : Int32) (r : q_R) : ((Int32 × Int32 × Int32 × q_R) ⊕ (Int32 × q_R)) := (qF_inFlight_37 x1 x3 t0 0 r)
set_option maxRecDepth 100000 in
theorem qE_inFlight_36 (x1 : Int32) (x3 : Int32) (t0 : Int32) (r : q_R) : qF_inFlight_36 x1 x3 t0 r = (qF_inFlight_37 x1 x3 t0 0 r) := rfl
set_option maxRecDepth 100000 in
set_option maxHeartbeats 4000000 in
theorem qS_inFlight_36 {n : Nat} {Q Post : Int32 → z_Mem → Prop} {QJ4 PJ4 : Int32 → Int32 → Int32 → z_Mem → Prop} {x1 : Int32} {x3 : Int32} {t0 : Int32} {M : z_Mem} {r : q_R} (S : y_S n M) (R : q_rep n M r) (H : P_X12_inFlight_36 (n + 40) Q QJ4 x1 x3 t0 M) (K : ∀ x M1 r1, Q x M1 → y_S n M1 → q_rep n M1 r1 → qF_inFlight_36 x1 x3 t0 r = (.inr (x, r1)) → Post x M1) (KJ4 : ∀ v0 v1 v2 M1 r1, QJ4 v0 v1 v2 M1 → y_S n M1 → q_rep n M1 r1 → qF_inFlight_36 x1 x3 t0 r = (.inl (v0, v1, v2, r1)) → PJ4 v0 v1 v2 M1) : P_X12_inFlight_36 (n + 40) Post PJ4 x1 x3 t0 M := by
  have hF := qE_inFlight_36 x1 x3 t0 r
  unfold P_X12_inFlight_36 at H ⊢
  exact qS_inFlight_37 S R H (fun x M1 r1 q1 q2 q3 u => K x M1 r1 q1 q2 q3 (hF.trans u)) (fun v0 v1 v2 M1 r1 q1 q2 q3 u => KJ4 v0 v1 v2 M1 r1 q1 q2 q3 (hF.trans u))
set_option maxRecDepth 100000 in
noncomputable def qB_inFlight_4 (x1 : Int32) (x2 : Int32) (x3 : Int32) (r : q_R) : (Int32 × Int32 × Int32 × q_R) ⊕ (Int32 × q_R) := (if ((r.1 1606) ≤ x3) then (.inr (x2, r)) else (if ((r.2 71 (x3 : Int32).toNatClampNeg) = x1) then (if ((r.2 76 (x3 : Int32).toNatClampNeg) = 0) then (qF_inFlight_37 x1 x3 x2 1 r) else (qF_inFlight_36 x1 x3 x2 r)) else (qF_inFlight_36 x1 x3 x2 r)))
set_option maxRecDepth 100000 in
noncomputable def qF_inFlight_4 (x1 : Int32) (x2 : Int32) (x3 : Int32) (r : q_R) : (Int32 × q_R) := q_lp (X := (Int32 × Int32 × Int32 × q_R)) (Y := (Int32 × q_R)) ((0 : Int32), r) (fun t => qB_inFlight_4 t.1 t.2.1 t.2.2.1 t.2.2.2) (x1, x2, x3, r)
set_option maxRecDepth 100000 in
theorem qUl_inFlight_4 {x1 : Int32} {x2 : Int32} {x3 : Int32} {r : q_R} {y_x1 : Int32} {y_x2 : Int32} {y_x3 : Int32} {r1 : q_R} (h : qB_inFlight_4 x1 x2 x3 r = .inl (y_x1, y_x2, y_x3, r1)) : qF_inFlight_4 x1 x2 x3 r = qF_inFlight_4 y_x1 y_x2 y_x3 r1 := q_lpl (step := fun t => qB_inFlight_4 t.1 t.2.1 t.2.2.1 t.2.2.2) h
set_option maxRecDepth 100000 in
theorem qUr_inFlight_4 {x1 : Int32} {x2 : Int32} {x3 : Int32} {r : q_R} {y : (Int32 × q_R)} (h : qB_inFlight_4 x1 x2 x3 r = .inr y) : qF_inFlight_4 x1 x2 x3 r = y := q_lpr (step := fun t => qB_inFlight_4 t.1 t.2.1 t.2.2.1 t.2.2.2) h
set_option maxRecDepth 100000 in
theorem qE_inFlight_4 (x1 : Int32) (x2 : Int32) (x3 : Int32) (r : q_R) : qB_inFlight_4 x1 x2 x3 r = (if ((r.1 1606) ≤ x3) then (.inr (x2, r)) else (if ((r.2 71 (x3 : Int32).toNatClampNeg) = x1) then (if ((r.2 76 (x3 : Int32).toNatClampNeg) = 0) then (qF_inFlight_37 x1 x3 x2 1 r) else (qF_inFlight_36 x1 x3 x2 r)) else (qF_inFlight_36 x1 x3 x2 r))) := rfl
set_option maxRecDepth 100000 in
set_option maxHeartbeats 4000000 in
theorem qS_inFlight_4 {n : Nat} {Q Post : Int32 → z_Mem → Prop} : ∀ (m : Nat) {x1 : Int32} {x2 : Int32} {x3 : Int32} {M : z_Mem} {r : q_R} (S : y_S n M) (R : q_rep n M r) (H : P_X12_inFlight_4 (n + 40) Q m x1 x2 x3 M) (K : ∀ x M1 r1, Q x M1 → y_S n M1 → q_rep n M1 r1 → qF_inFlight_4 x1 x2 x3 r = (x, r1) → Post x M1), P_X12_inFlight_4 (n + 40) Post m x1 x2 x3 M := by
  intro m
  induction m with
  | zero => intros; rename_i H _; exact False.elim H
  | succ m ih =>
    intro x1 x2 x3 M r S R H K
    have hF := qE_inFlight_4 x1 x2 x3 r
    unfold P_X12_inFlight_4 at H ⊢
    try simp only [qf_1606 R] at H ⊢
    refine And.intro (fun c1 => ?_) (fun c1 => ?_)
    · replace H := H.1 c1
      replace hF := hF.trans (if_pos c1)
      exact K _ _ _ H S R (qUr_inFlight_4 hF)
    · replace H := H.2 c1
      replace hF := hF.trans (if_neg c1)
      replace H := z_nne (s_1593_40 S) H
      refine z_nn_of (s_1593_40 S) ?_
      refine And.intro H.1 ?_
      replace H := H.2
      try simp only [qa_71 R] at H ⊢
      refine And.intro (fun c2 => ?_) (fun c2 => ?_)
      · replace H := H.1 c2
        replace hF := hF.trans (if_pos c2)
        replace H := z_nne (s_1598_40 S) H
        refine z_nn_of (s_1598_40 S) ?_
        refine And.intro H.1 ?_
        replace H := H.2
        try simp only [qa_76 R] at H ⊢
        refine And.intro (fun c3 => ?_) (fun c3 => ?_)
        · replace H := H.1 c3
          replace hF := hF.trans (if_pos c3)
          exact qS_inFlight_37 S R H (fun x M1 r1 q1 q2 q3 u => K x M1 r1 q1 q2 q3 (qUr_inFlight_4 (hF.trans u))) (fun v0 v1 v2 M1 r1 q1 q2 q3 u => ih q2 q3 q1 (fun x M1 r1 q1 q2 q3 u2 => K x M1 r1 q1 q2 q3 ((qUl_inFlight_4 (hF.trans u)).trans u2))) 
        · replace H := H.2 c3
          replace hF := hF.trans (if_neg c3)
          exact qS_inFlight_36 S R H (fun x M1 r1 q1 q2 q3 u => K x M1 r1 q1 q2 q3 (qUr_inFlight_4 (hF.trans u))) (fun v0 v1 v2 M1 r1 q1 q2 q3 u => ih q2 q3 q1 (fun x M1 r1 q1 q2 q3 u2 => K x M1 r1 q1 q2 q3 ((qUl_inFlight_4 (hF.trans u)).trans u2))) 
      · replace H := H.2 c2
        replace hF := hF.trans (if_neg c2)
        exact qS_inFlight_36 S R H (fun x M1 r1 q1 q2 q3 u => K x M1 r1 q1 q2 q3 (qUr_inFlight_4 (hF.trans u))) (fun v0 v1 v2 M1 r1 q1 q2 q3 u => ih q2 q3 q1 (fun x M1 r1 q1 q2 q3 u2 => K x M1 r1 q1 q2 q3 ((qUl_inFlight_4 (hF.trans u)).trans u2))) 
set_option maxRecDepth 100000 in
noncomputable def qF_inFlight (p1 : Int32) (r : q_R) : (Int32 × q_R) := (qF_inFlight_4 p1 0 0 r)
set_option maxRecDepth 100000 in
theorem qE_inFlight (p1 : Int32) (r : q_R) : qF_inFlight p1 r = (qF_inFlight_4 p1 0 0 r) := rfl
set_option maxRecDepth 100000 in
set_option maxHeartbeats 4000000 in
theorem qS_inFlight {n : Nat} {Q Post : Int32 → z_Mem → Prop} {p1 : Int32} {M : z_Mem} {r : q_R} (S : y_S n M) (R : q_rep n M r) (H : P_X12_inFlight (n + 40) p1 M Q) (K : ∀ x M1 r1, Q x M1 → y_S n M1 → q_rep n M1 r1 → qF_inFlight p1 r = (x, r1) → Post x M1) : P_X12_inFlight (n + 40) p1 M Post := by
  have hF := qE_inFlight p1 r
  unfold P_X12_inFlight at H ⊢
  obtain ⟨m, H⟩ := H
  refine ⟨m, ?_⟩
  exact qS_inFlight_4 m S R H (fun x M1 r1 q1 q2 q3 u => K x M1 r1 q1 q2 q3 (hF.trans u))
set_option maxRecDepth 100000 in
noncomputable def qB_byCube_11 (x1 : Int32) (x2 : Int64) (x4 : Int64) (r : q_R) : (Int32 × Int64 × Int64 × q_R) ⊕ (Int32 × q_R) := (if (0 ≤ (lg_cmp ((((2 * x4) * x4) * x4) / 125) ((3 * x2) / 10))) then (q_st ((((r.1 1536) - (r.2 101 (x1 : Int32).toNatClampNeg)) : Int32).toInt64 - x4) (fun (x_6 : Int64) => (q_st (x2 + ((((2 * x_6) * x_6) * x_6) / 125)) (fun (x_7 : Int64) => (q_st ((16 * (x_7 - ((r.2 84 (x1 : Int32).toNatClampNeg) : Int32).toInt64)) / ((r.2 84 (x1 : Int32).toNatClampNeg) : Int32).toInt64) (fun (x_15 : Int64) => (if (0 ≤ (lg_cmp x_15 1)) then (.inr ((x_15 : Int64).toInt32, r)) else (.inr (1, r))))))))) else (q_st (x4 + 1) (fun (x_17 : Int64) => (.inl (x1, x2, x_17, r)))))
set_option maxRecDepth 100000 in
noncomputable def qF_byCube_11 (x1 : Int32) (x2 : Int64) (x4 : Int64) (r : q_R) : (Int32 × q_R) := q_lp (X := (Int32 × Int64 × Int64 × q_R)) (Y := (Int32 × q_R)) ((0 : Int32), r) (fun t => qB_byCube_11 t.1 t.2.1 t.2.2.1 t.2.2.2) (x1, x2, x4, r)
set_option maxRecDepth 100000 in
theorem qUl_byCube_11 {x1 : Int32} {x2 : Int64} {x4 : Int64} {r : q_R} {y_x1 : Int32} {y_x2 : Int64} {y_x4 : Int64} {r1 : q_R} (h : qB_byCube_11 x1 x2 x4 r = .inl (y_x1, y_x2, y_x4, r1)) : qF_byCube_11 x1 x2 x4 r = qF_byCube_11 y_x1 y_x2 y_x4 r1 := q_lpl (step := fun t => qB_byCube_11 t.1 t.2.1 t.2.2.1 t.2.2.2) h
set_option maxRecDepth 100000 in
theorem qUr_byCube_11 {x1 : Int32} {x2 : Int64} {x4 : Int64} {r : q_R} {y : (Int32 × q_R)} (h : qB_byCube_11 x1 x2 x4 r = .inr y) : qF_byCube_11 x1 x2 x4 r = y := q_lpr (step := fun t => qB_byCube_11 t.1 t.2.1 t.2.2.1 t.2.2.2) h
set_option maxRecDepth 100000 in
theorem qE_byCube_11 (x1 : Int32) (x2 : Int64) (x4 : Int64) (r : q_R) : qB_byCube_11 x1 x2 x4 r = (if (0 ≤ (lg_cmp ((((2 * x4) * x4) * x4) / 125) ((3 * x2) / 10))) then (q_st ((((r.1 1536) - (r.2 101 (x1 : Int32).toNatClampNeg)) : Int32).toInt64 - x4) (fun (x_6 : Int64) => (q_st (x2 + ((((2 * x_6) * x_6) * x_6) / 125)) (fun (x_7 : Int64) => (q_st ((16 * (x_7 - ((r.2 84 (x1 : Int32).toNatClampNeg) : Int32).toInt64)) / ((r.2 84 (x1 : Int32).toNatClampNeg) : Int32).toInt64) (fun (x_15 : Int64) => (if (0 ≤ (lg_cmp x_15 1)) then (.inr ((x_15 : Int64).toInt32, r)) else (.inr (1, r))))))))) else (q_st (x4 + 1) (fun (x_17 : Int64) => (.inl (x1, x2, x_17, r))))) := rfl
set_option maxRecDepth 100000 in
set_option maxHeartbeats 4000000 in
theorem qS_byCube_11 {n : Nat} {Q Post : Int32 → z_Mem → Prop} : ∀ (m : Nat) {x1 : Int32} {x2 : Int64} {x4 : Int64} {M : z_Mem} {r : q_R} (S : y_S n M) (R : q_rep n M r) (H : P_X12_byCube_11 (n + 40) Q m x1 x2 x4 M) (K : ∀ x M1 r1, Q x M1 → y_S n M1 → q_rep n M1 r1 → qF_byCube_11 x1 x2 x4 r = (x, r1) → Post x M1), P_X12_byCube_11 (n + 40) Post m x1 x2 x4 M := by
  intro m
  induction m with
  | zero => intros; rename_i H _; exact False.elim H
  | succ m ih =>
    intro x1 x2 x4 M r S R H K
    have hF := qE_byCube_11 x1 x2 x4 r
    unfold P_X12_byCube_11 at H ⊢
    refine And.intro (fun c1 => ?_) (fun c1 => ?_)
    · replace H := H.1 c1
      replace hF := hF.trans (if_pos c1)
      replace H := z_nne (s_1624_40 S) H
      refine z_nn_of (s_1624_40 S) ?_
      refine And.intro H.1 ?_
      replace H := H.2
      try simp only [qa_101 R, qf_1536 R] at H ⊢
      intro x_6 e_x_6
      replace H := H x_6 e_x_6
      replace hF := hF.trans (q_ste e_x_6)
      intro x_7 e_x_7
      replace H := H x_7 e_x_7
      replace hF := hF.trans (q_ste e_x_7)
      replace H := z_nne (s_1607_40 S) H
      refine z_nn_of (s_1607_40 S) ?_
      refine And.intro H.1 ?_
      replace H := H.2
      replace H := z_nne (s_1607_40 S) H
      refine z_nn_of (s_1607_40 S) ?_
      refine And.intro H.1 ?_
      replace H := H.2
      refine And.intro H.1 ?_
      replace H := H.2
      try simp only [qa_84 R] at H ⊢
      intro x_15 e_x_15
      replace H := H x_15 e_x_15
      replace hF := hF.trans (q_ste e_x_15)
      refine And.intro (fun c2 => ?_) (fun c2 => ?_)
      · replace H := H.1 c2
        replace hF := hF.trans (if_pos c2)
        exact K _ _ _ H S R (qUr_byCube_11 hF)
      · replace H := H.2 c2
        replace hF := hF.trans (if_neg c2)
        exact K _ _ _ H S R (qUr_byCube_11 hF)
    · replace H := H.2 c1
      replace hF := hF.trans (if_neg c1)
      intro x_17 e_x_17
      replace H := H x_17 e_x_17
      replace hF := hF.trans (q_ste e_x_17)
      replace hF := qUl_byCube_11 hF
      exact ih S R H (fun x M1 r1 q1 q2 q3 u => K x M1 r1 q1 q2 q3 (hF.trans u))
set_option maxRecDepth 100000 in
noncomputable def qF_byCube (p1 : Int32) (r : q_R) : (Int32 × q_R) := (q_st ((r.2 103 (p1 : Int32).toNatClampNeg) : Int32).toInt64 (fun (x_21 : Int64) => (qF_byCube_11 p1 x_21 0 r)))
set_option maxRecDepth 100000 in
theorem qE_byCube (p1 : Int32) (r : q_R) : qF_byCube p1 r = (q_st ((r.2 103 (p1 : Int32).toNatClampNeg) : Int32).toInt64 (fun (x_21 : Int64) => (qF_byCube_11 p1 x_21 0 r))) := rfl
set_option maxRecDepth 100000 in
set_option maxHeartbeats 4000000 in
theorem qS_byCube {n : Nat} {Q Post : Int32 → z_Mem → Prop} {p1 : Int32} {M : z_Mem} {r : q_R} (S : y_S n M) (R : q_rep n M r) (H : P_X12_byCube (n + 40) p1 M Q) (K : ∀ x M1 r1, Q x M1 → y_S n M1 → q_rep n M1 r1 → qF_byCube p1 r = (x, r1) → Post x M1) : P_X12_byCube (n + 40) p1 M Post := by
  have hF := qE_byCube p1 r
  unfold P_X12_byCube at H ⊢
  replace H := z_nne (s_1626_40 S) H
  refine z_nn_of (s_1626_40 S) ?_
  refine And.intro H.1 ?_
  replace H := H.2
  try simp only [qa_103 R] at H ⊢
  intro x_21 e_x_21
  replace H := H x_21 e_x_21
  replace hF := hF.trans (q_ste e_x_21)
  obtain ⟨m, H⟩ := H
  refine ⟨m, ?_⟩
  exact qS_byCube_11 m S R H (fun x M1 r1 q1 q2 q3 u => K x M1 r1 q1 q2 q3 (hF.trans u))
set_option maxRecDepth 100000 in
noncomputable def qB_grows_96 (x2 : Int32) (x4 : Int32) (x5 : Int32) (r : q_R) : (Int32 × Int32 × Int32 × q_R) ⊕ q_R := (if (8 ≤ x5) then (q_st2 (qF_max 64 ((2 * x4) * (r.2 89 (x2 : Int32).toNatClampNeg)) r) (fun (x_6 : Int32) r1 => (q_st (ua r1 84 (x2 : Int32).toNatClampNeg x_6) (fun r2 => (.inr r2))))) else (q_st2 (qF_max x4 (r.2 98 (((8 * x2) + x5) : Int32).toNatClampNeg) r) (fun (x_13 : Int32) r3 => (q_st (x5 + 1) (fun (x_14 : Int32) => (.inl (x2, x_13, x_14, r3)))))))
set_option maxRecDepth 100000 in
noncomputable def qF_grows_96 (x2 : Int32) (x4 : Int32) (x5 : Int32) (r : q_R) : q_R := q_lp (X := (Int32 × Int32 × Int32 × q_R)) (Y := q_R) r (fun t => qB_grows_96 t.1 t.2.1 t.2.2.1 t.2.2.2) (x2, x4, x5, r)
set_option maxRecDepth 100000 in
theorem qUl_grows_96 {x2 : Int32} {x4 : Int32} {x5 : Int32} {r : q_R} {y_x2 : Int32} {y_x4 : Int32} {y_x5 : Int32} {r1 : q_R} (h : qB_grows_96 x2 x4 x5 r = .inl (y_x2, y_x4, y_x5, r1)) : qF_grows_96 x2 x4 x5 r = qF_grows_96 y_x2 y_x4 y_x5 r1 := q_lpl (step := fun t => qB_grows_96 t.1 t.2.1 t.2.2.1 t.2.2.2) h
set_option maxRecDepth 100000 in
theorem qUr_grows_96 {x2 : Int32} {x4 : Int32} {x5 : Int32} {r : q_R} {y : q_R} (h : qB_grows_96 x2 x4 x5 r = .inr y) : qF_grows_96 x2 x4 x5 r = y := q_lpr (step := fun t => qB_grows_96 t.1 t.2.1 t.2.2.1 t.2.2.2) h
set_option maxRecDepth 100000 in
theorem qE_grows_96 (x2 : Int32) (x4 : Int32) (x5 : Int32) (r : q_R) : qB_grows_96 x2 x4 x5 r = (if (8 ≤ x5) then (q_st2 (qF_max 64 ((2 * x4) * (r.2 89 (x2 : Int32).toNatClampNeg)) r) (fun (x_6 : Int32) r1 => (q_st (ua r1 84 (x2 : Int32).toNatClampNeg x_6) (fun r2 => (.inr r2))))) else (q_st2 (qF_max x4 (r.2 98 (((8 * x2) + x5) : Int32).toNatClampNeg) r) (fun (x_13 : Int32) r3 => (q_st (x5 + 1) (fun (x_14 : Int32) => (.inl (x2, x_13, x_14, r3))))))) := rfl
set_option maxRecDepth 100000 in
set_option maxHeartbeats 4000000 in
theorem qS_grows_96 {n : Nat} {Q Post : z_Mem → Prop} : ∀ (m : Nat) {x2 : Int32} {x4 : Int32} {x5 : Int32} {M : z_Mem} {r : q_R} (S : y_S n M) (R : q_rep n M r) (H : P_X12_grows_96 (n + 40) Q m x2 x4 x5 M) (K : ∀ M1 r1, Q M1 → y_S n M1 → q_rep n M1 r1 → qF_grows_96 x2 x4 x5 r = r1 → Post M1), P_X12_grows_96 (n + 40) Post m x2 x4 x5 M := by
  intro m
  induction m with
  | zero => intros; rename_i H _; exact False.elim H
  | succ m ih =>
    intro x2 x4 x5 M r S R H K
    have hF := qE_grows_96 x2 x4 x5 r
    unfold P_X12_grows_96 at H ⊢
    refine And.intro (fun c1 => ?_) (fun c1 => ?_)
    · replace H := H.1 c1
      replace hF := hF.trans (if_pos c1)
      replace H := z_nne (s_1612_40 S) H
      refine z_nn_of (s_1612_40 S) ?_
      refine And.intro H.1 ?_
      replace H := H.2
      try simp only [qa_89 R] at H ⊢
      refine qS_max S R H (fun x_6 M_6 r_M_6 H S_M_6 R_M_6 u => ?_)
      replace hF := hF.trans (q_ste2 u)
      replace H := z_nne (s_1607_40 S) H
      refine z_nn_of (s_1607_40 S) ?_
      refine And.intro H.1 ?_
      replace H := H.2
      intro M_9 e_M_9
      replace H := H M_9 e_M_9
      have S_M_9 : y_S n M_9 := by rw [e_M_9]; exact S_sai S_M_6
      have R_M_9 := rep_sai R_M_6 (by decide) (by decide) e_M_9
      obtain ⟨r_M_9, h_M_9⟩ := q_gen R_M_9
      replace hF := hF.trans (q_ste h_M_9.2)
      replace R_M_9 := h_M_9.1
      exact K _ _ H S_M_9 R_M_9 (qUr_grows_96 hF)
    · replace H := H.2 c1
      replace hF := hF.trans (if_neg c1)
      replace H := z_nne (s_1621_40 S) H
      refine z_nn_of (s_1621_40 S) ?_
      refine And.intro H.1 ?_
      replace H := H.2
      try simp only [qa_98 R] at H ⊢
      refine qS_max S R H (fun x_13 M_13 r_M_13 H S_M_13 R_M_13 u => ?_)
      replace hF := hF.trans (q_ste2 u)
      intro x_14 e_x_14
      replace H := H x_14 e_x_14
      replace hF := hF.trans (q_ste e_x_14)
      replace hF := qUl_grows_96 hF
      exact ih S_M_13 R_M_13 H (fun M1 r1 q1 q2 q3 u => K M1 r1 q1 q2 q3 (hF.trans u))
set_option maxRecDepth 100000 in
noncomputable def qF_grows (p1 : Int32) (r : q_R) : q_R := (q_st (r.2 71 (p1 : Int32).toNatClampNeg) (fun (x_18 : Int32) => (q_st (ua r 97 (x_18 : Int32).toNatClampNeg ((r.2 97 (x_18 : Int32).toNatClampNeg) + 1)) (fun r1 => (if ((r1.2 86 (x_18 : Int32).toNatClampNeg) = 2) then (q_st2 (qF_max 1 ((r1.1 1536) - (r1.2 72 (p1 : Int32).toNatClampNeg)) r1) (fun (x_67 : Int32) r2 => (q_st ((16 * ((r1.2 97 (x_18 : Int32).toNatClampNeg) - (r1.2 83 (p1 : Int32).toNatClampNeg))) / x_67) (fun (x_69 : Int32) => (q_st (ua r2 98 (((8 * x_18) + ((r2.2 99 (x_18 : Int32).toNatClampNeg) - (((r2.2 99 (x_18 : Int32).toNatClampNeg) / 8) * 8))) : Int32).toNatClampNeg x_69) (fun r3 => (q_st (ua r3 99 (x_18 : Int32).toNatClampNeg ((r3.2 99 (x_18 : Int32).toNatClampNeg) + 1)) (fun r4 => (qF_grows_96 x_18 0 0 r4))))))))) else (if ((r1.2 85 (x_18 : Int32).toNatClampNeg) ≤ (r1.2 84 (x_18 : Int32).toNatClampNeg)) then (if ((r1.2 86 (x_18 : Int32).toNatClampNeg) = 0) then (q_st2 (qF_max 1 (256 / (r1.2 84 (x_18 : Int32).toNatClampNeg)) r1) (fun (x_49 : Int32) r5 => (q_st (ua r5 84 (x_18 : Int32).toNatClampNeg ((r1.2 84 (x_18 : Int32).toNatClampNeg) + x_49)) (fun r6 => r6)))) else (q_st2 (qF_byCube x_18 r1) (fun (x_42 : Int32) r7 => (q_st (ua r7 84 (x_18 : Int32).toNatClampNeg ((r1.2 84 (x_18 : Int32).toNatClampNeg) + x_42)) (fun r8 => r8))))) else (q_st (ua r1 84 (x_18 : Int32).toNatClampNeg ((r1.2 84 (x_18 : Int32).toNatClampNeg) + 16)) (fun r9 => r9))))))))
set_option maxRecDepth 100000 in
theorem qE_grows (p1 : Int32) (r : q_R) : qF_grows p1 r = (q_st (r.2 71 (p1 : Int32).toNatClampNeg) (fun (x_18 : Int32) => (q_st (ua r 97 (x_18 : Int32).toNatClampNeg ((r.2 97 (x_18 : Int32).toNatClampNeg) + 1)) (fun r1 => (if ((r1.2 86 (x_18 : Int32).toNatClampNeg) = 2) then (q_st2 (qF_max 1 ((r1.1 1536) - (r1.2 72 (p1 : Int32).toNatClampNeg)) r1) (fun (x_67 : Int32) r2 => (q_st ((16 * ((r1.2 97 (x_18 : Int32).toNatClampNeg) - (r1.2 83 (p1 : Int32).toNatClampNeg))) / x_67) (fun (x_69 : Int32) => (q_st (ua r2 98 (((8 * x_18) + ((r2.2 99 (x_18 : Int32).toNatClampNeg) - (((r2.2 99 (x_18 : Int32).toNatClampNeg) / 8) * 8))) : Int32).toNatClampNeg x_69) (fun r3 => (q_st (ua r3 99 (x_18 : Int32).toNatClampNeg ((r3.2 99 (x_18 : Int32).toNatClampNeg) + 1)) (fun r4 => (qF_grows_96 x_18 0 0 r4))))))))) else (if ((r1.2 85 (x_18 : Int32).toNatClampNeg) ≤ (r1.2 84 (x_18 : Int32).toNatClampNeg)) then (if ((r1.2 86 (x_18 : Int32).toNatClampNeg) = 0) then (q_st2 (qF_max 1 (256 / (r1.2 84 (x_18 : Int32).toNatClampNeg)) r1) (fun (x_49 : Int32) r5 => (q_st (ua r5 84 (x_18 : Int32).toNatClampNeg ((r1.2 84 (x_18 : Int32).toNatClampNeg) + x_49)) (fun r6 => r6)))) else (q_st2 (qF_byCube x_18 r1) (fun (x_42 : Int32) r7 => (q_st (ua r7 84 (x_18 : Int32).toNatClampNeg ((r1.2 84 (x_18 : Int32).toNatClampNeg) + x_42)) (fun r8 => r8))))) else (q_st (ua r1 84 (x_18 : Int32).toNatClampNeg ((r1.2 84 (x_18 : Int32).toNatClampNeg) + 16)) (fun r9 => r9)))))))) := rfl
set_option maxRecDepth 100000 in
set_option maxHeartbeats 4000000 in
theorem qS_grows {n : Nat} {Q Post : z_Mem → Prop} {p1 : Int32} {M : z_Mem} {r : q_R} (S : y_S n M) (R : q_rep n M r) (H : P_X12_grows (n + 40) p1 M Q) (K : ∀ M1 r1, Q M1 → y_S n M1 → q_rep n M1 r1 → qF_grows p1 r = r1 → Post M1) : P_X12_grows (n + 40) p1 M Post := by
  have hF := qE_grows p1 r
  unfold P_X12_grows at H ⊢
  replace H := z_nne (s_1593_40 S) H
  refine z_nn_of (s_1593_40 S) ?_
  refine And.intro H.1 ?_
  replace H := H.2
  try simp only [qa_71 R] at H ⊢
  intro x_18 e_x_18
  replace H := H x_18 e_x_18
  replace hF := hF.trans (q_ste e_x_18)
  replace H := z_nne (s_1620_40 S) H
  refine z_nn_of (s_1620_40 S) ?_
  refine And.intro H.1 ?_
  replace H := H.2
  refine And.intro H.1 ?_
  replace H := H.2
  try simp only [qa_97 R] at H ⊢
  intro M_23 e_M_23
  replace H := H M_23 e_M_23
  have S_M_23 : y_S n M_23 := by rw [e_M_23]; exact S_sai S
  have R_M_23 := rep_sai R (by decide) (by decide) e_M_23
  obtain ⟨r_M_23, h_M_23⟩ := q_gen R_M_23
  replace hF := hF.trans (q_ste h_M_23.2)
  replace R_M_23 := h_M_23.1
  replace H := z_nne (s_1609_40 S_M_23) H
  refine z_nn_of (s_1609_40 S_M_23) ?_
  refine And.intro H.1 ?_
  replace H := H.2
  try simp only [qa_86 R_M_23] at H ⊢
  refine And.intro (fun c1 => ?_) (fun c1 => ?_)
  · replace H := H.1 c1
    replace hF := hF.trans (if_pos c1)
    replace H := z_nne (s_1620_40 S_M_23) H
    refine z_nn_of (s_1620_40 S_M_23) ?_
    refine And.intro H.1 ?_
    replace H := H.2
    replace H := z_nne (s_1605_40 S_M_23) H
    refine z_nn_of (s_1605_40 S_M_23) ?_
    refine And.intro H.1 ?_
    replace H := H.2
    replace H := z_nne (s_1594_40 S_M_23) H
    refine z_nn_of (s_1594_40 S_M_23) ?_
    refine And.intro H.1 ?_
    replace H := H.2
    try simp only [qa_72 R_M_23, qf_1536 R_M_23] at H ⊢
    refine qS_max S_M_23 R_M_23 H (fun x_67 M_67 r_M_67 H S_M_67 R_M_67 u => ?_)
    replace hF := hF.trans (q_ste2 u)
    refine And.intro H.1 ?_
    replace H := H.2
    try simp only [qa_83 R_M_23, qa_97 R_M_23] at H ⊢
    intro x_69 e_x_69
    replace H := H x_69 e_x_69
    replace hF := hF.trans (q_ste e_x_69)
    replace H := z_nne (s_1622_40 S_M_67) H
    refine z_nn_of (s_1622_40 S_M_67) ?_
    refine And.intro H.1 ?_
    replace H := H.2
    replace H := z_nne (s_1621_40 S_M_67) H
    refine z_nn_of (s_1621_40 S_M_67) ?_
    refine And.intro H.1 ?_
    replace H := H.2
    try simp only [qa_99 R_M_67] at H ⊢
    intro M_76 e_M_76
    replace H := H M_76 e_M_76
    have S_M_76 : y_S n M_76 := by rw [e_M_76]; exact S_sai S_M_67
    have R_M_76 := rep_sai R_M_67 (by decide) (by decide) e_M_76
    obtain ⟨r_M_76, h_M_76⟩ := q_gen R_M_76
    replace hF := hF.trans (q_ste h_M_76.2)
    replace R_M_76 := h_M_76.1
    replace H := z_nne (s_1622_40 S_M_76) H
    refine z_nn_of (s_1622_40 S_M_76) ?_
    refine And.intro H.1 ?_
    replace H := H.2
    refine And.intro H.1 ?_
    replace H := H.2
    try simp only [qa_99 R_M_76] at H ⊢
    intro M_81 e_M_81
    replace H := H M_81 e_M_81
    have S_M_81 : y_S n M_81 := by rw [e_M_81]; exact S_sai S_M_76
    have R_M_81 := rep_sai R_M_76 (by decide) (by decide) e_M_81
    obtain ⟨r_M_81, h_M_81⟩ := q_gen R_M_81
    replace hF := hF.trans (q_ste h_M_81.2)
    replace R_M_81 := h_M_81.1
    obtain ⟨m, H⟩ := H
    refine ⟨m, ?_⟩
    exact qS_grows_96 m S_M_81 R_M_81 H (fun M1 r1 q1 q2 q3 u => K M1 r1 q1 q2 q3 (hF.trans u))
  · replace H := H.2 c1
    replace hF := hF.trans (if_neg c1)
    replace H := z_nne (s_1607_40 S_M_23) H
    refine z_nn_of (s_1607_40 S_M_23) ?_
    refine And.intro H.1 ?_
    replace H := H.2
    replace H := z_nne (s_1608_40 S_M_23) H
    refine z_nn_of (s_1608_40 S_M_23) ?_
    refine And.intro H.1 ?_
    replace H := H.2
    try simp only [qa_84 R_M_23, qa_85 R_M_23] at H ⊢
    refine And.intro (fun c2 => ?_) (fun c2 => ?_)
    · replace H := H.1 c2
      replace hF := hF.trans (if_pos c2)
      replace H := z_nne (s_1607_40 S_M_23) H
      refine z_nn_of (s_1607_40 S_M_23) ?_
      refine And.intro H.1 ?_
      replace H := H.2
      replace H := z_nne (s_1609_40 S_M_23) H
      refine z_nn_of (s_1609_40 S_M_23) ?_
      refine And.intro H.1 ?_
      replace H := H.2
      try simp only [qa_86 R_M_23] at H ⊢
      refine And.intro (fun c3 => ?_) (fun c3 => ?_)
      · replace H := H.1 c3
        replace hF := hF.trans (if_pos c3)
        replace H := z_nne (s_1607_40 S_M_23) H
        refine z_nn_of (s_1607_40 S_M_23) ?_
        refine And.intro H.1 ?_
        replace H := H.2
        refine And.intro H.1 ?_
        replace H := H.2
        try simp only [qa_84 R_M_23] at H ⊢
        refine qS_max S_M_23 R_M_23 H (fun x_49 M_49 r_M_49 H S_M_49 R_M_49 u => ?_)
        replace hF := hF.trans (q_ste2 u)
        refine And.intro H.1 ?_
        replace H := H.2
        try simp only [qa_84 R_M_23] at H ⊢
        intro M_51 e_M_51
        replace H := H M_51 e_M_51
        have S_M_51 : y_S n M_51 := by rw [e_M_51]; exact S_sai S_M_49
        have R_M_51 := rep_sai R_M_49 (by decide) (by decide) e_M_51
        obtain ⟨r_M_51, h_M_51⟩ := q_gen R_M_51
        replace hF := hF.trans (q_ste h_M_51.2)
        replace R_M_51 := h_M_51.1
        exact K _ _ H S_M_51 R_M_51 hF
      · replace H := H.2 c3
        replace hF := hF.trans (if_neg c3)
        refine qS_byCube S_M_23 R_M_23 H (fun x_42 M_42 r_M_42 H S_M_42 R_M_42 u => ?_)
        replace hF := hF.trans (q_ste2 u)
        refine And.intro H.1 ?_
        replace H := H.2
        try simp only [qa_84 R_M_23] at H ⊢
        intro M_44 e_M_44
        replace H := H M_44 e_M_44
        have S_M_44 : y_S n M_44 := by rw [e_M_44]; exact S_sai S_M_42
        have R_M_44 := rep_sai R_M_42 (by decide) (by decide) e_M_44
        obtain ⟨r_M_44, h_M_44⟩ := q_gen R_M_44
        replace hF := hF.trans (q_ste h_M_44.2)
        replace R_M_44 := h_M_44.1
        exact K _ _ H S_M_44 R_M_44 hF
    · replace H := H.2 c2
      replace hF := hF.trans (if_neg c2)
      replace H := z_nne (s_1607_40 S_M_23) H
      refine z_nn_of (s_1607_40 S_M_23) ?_
      refine And.intro H.1 ?_
      replace H := H.2
      refine And.intro H.1 ?_
      replace H := H.2
      try simp only [qa_84 R_M_23] at H ⊢
      intro M_56 e_M_56
      replace H := H M_56 e_M_56
      have S_M_56 : y_S n M_56 := by rw [e_M_56]; exact S_sai S_M_23
      have R_M_56 := rep_sai R_M_23 (by decide) (by decide) e_M_56
      obtain ⟨r_M_56, h_M_56⟩ := q_gen R_M_56
      replace hF := hF.trans (q_ste h_M_56.2)
      replace R_M_56 := h_M_56.1
      exact K _ _ H S_M_56 R_M_56 hF
set_option maxRecDepth 100000 in
noncomputable def qF_harms_129 (x1 : Int32) (t0 : Nat) (t1 : Int32) (t2 : Int32) (t3 : Int32) (r : q_R) : q_R := (q_st2 (qF_max t2 t3 r) (fun (x_1 : Int32) r1 => (q_st (ua r1 t0 (t1 : Int32).toNatClampNeg x_1) (fun r2 => (q_st (ua r2 85 (x1 : Int32).toNatClampNeg (r2.2 84 (x1 : Int32).toNatClampNeg)) (fun r3 => r3))))))
set_option maxRecDepth 100000 in
theorem qE_harms_129 (x1 : Int32) (t0 : Nat) (t1 : Int32) (t2 : Int32) (t3 : Int32) (r : q_R) : qF_harms_129 x1 t0 t1 t2 t3 r = (q_st2 (qF_max t2 t3 r) (fun (x_1 : Int32) r1 => (q_st (ua r1 t0 (t1 : Int32).toNatClampNeg x_1) (fun r2 => (q_st (ua r2 85 (x1 : Int32).toNatClampNeg (r2.2 84 (x1 : Int32).toNatClampNeg)) (fun r3 => r3)))))) := rfl
set_option maxRecDepth 100000 in
set_option maxHeartbeats 4000000 in
theorem qS_harms_129 {n : Nat} {Q Post : z_Mem → Prop} {x1 : Int32} {t1 : Int32} {t2 : Int32} {t3 : Int32} {t0 : Nat} {o_t0 : Option Nat} {M : z_Mem} {r : q_R} (h0_t0 : 41 ≤ t0) (h1_t0 : t0 < 107) (ho_t0 : o_t0 = some (n + t0)) (S : y_S n M) (R : q_rep n M r) (H : P_X12_harms_129 (n + 40) Q x1 o_t0 t1 t2 t3 M) (K : ∀ M1 r1, Q M1 → y_S n M1 → q_rep n M1 r1 → qF_harms_129 x1 t0 t1 t2 t3 r = r1 → Post M1) : P_X12_harms_129 (n + 40) Post x1 o_t0 t1 t2 t3 M := by
  subst ho_t0
  have hF := qE_harms_129 x1 t0 t1 t2 t3 r
  unfold P_X12_harms_129 at H ⊢
  refine qS_max S R H (fun x_1 M_1 r_M_1 H S_M_1 R_M_1 u => ?_)
  replace hF := hF.trans (q_ste2 u)
  replace H := z_nne rfl H
  refine z_nn_of rfl ?_
  refine And.intro H.1 ?_
  replace H := H.2
  intro M_4 e_M_4
  replace H := H M_4 e_M_4
  have S_M_4 : y_S n M_4 := by rw [e_M_4]; exact S_sai S_M_1
  have R_M_4 := rep_sai R_M_1 h0_t0 h1_t0 e_M_4
  obtain ⟨r_M_4, h_M_4⟩ := q_gen R_M_4
  replace hF := hF.trans (q_ste h_M_4.2)
  replace R_M_4 := h_M_4.1
  replace H := z_nne (s_1607_40 S_M_4) H
  refine z_nn_of (s_1607_40 S_M_4) ?_
  refine And.intro H.1 ?_
  replace H := H.2
  replace H := z_nne (s_1608_40 S_M_4) H
  refine z_nn_of (s_1608_40 S_M_4) ?_
  refine And.intro H.1 ?_
  replace H := H.2
  try simp only [qa_84 R_M_4] at H ⊢
  intro M_11 e_M_11
  replace H := H M_11 e_M_11
  have S_M_11 : y_S n M_11 := by rw [e_M_11]; exact S_sai S_M_4
  have R_M_11 := rep_sai R_M_4 (by decide) (by decide) e_M_11
  obtain ⟨r_M_11, h_M_11⟩ := q_gen R_M_11
  replace hF := hF.trans (q_ste h_M_11.2)
  replace R_M_11 := h_M_11.1
  exact K _ _ H S_M_11 R_M_11 hF
set_option maxRecDepth 100000 in
noncomputable def qF_harms_55 (x1 : Int32) (t0 : Nat) (t1 : Int32) (t2 : Int32) (r : q_R) : q_R := (q_st (ua r t0 (t1 : Int32).toNatClampNeg t2) (fun r1 => (q_st (ua r1 103 (x1 : Int32).toNatClampNeg (r1.2 84 (x1 : Int32).toNatClampNeg)) (fun r2 => (q_st (ua r2 104 (x1 : Int32).toNatClampNeg (r2.2 85 (x1 : Int32).toNatClampNeg)) (fun r3 => (if (2 ≤ (r3.2 86 (x1 : Int32).toNatClampNeg)) then r3 else (if ((r3.2 86 (x1 : Int32).toNatClampNeg) = 0) then (qF_harms_129 x1 84 x1 32 ((r3.2 84 (x1 : Int32).toNatClampNeg) / 2) r3) else (qF_harms_129 x1 84 x1 32 ((7 * (r3.2 84 (x1 : Int32).toNatClampNeg)) / 10) r3)))))))))
set_option maxRecDepth 100000 in
theorem qE_harms_55 (x1 : Int32) (t0 : Nat) (t1 : Int32) (t2 : Int32) (r : q_R) : qF_harms_55 x1 t0 t1 t2 r = (q_st (ua r t0 (t1 : Int32).toNatClampNeg t2) (fun r1 => (q_st (ua r1 103 (x1 : Int32).toNatClampNeg (r1.2 84 (x1 : Int32).toNatClampNeg)) (fun r2 => (q_st (ua r2 104 (x1 : Int32).toNatClampNeg (r2.2 85 (x1 : Int32).toNatClampNeg)) (fun r3 => (if (2 ≤ (r3.2 86 (x1 : Int32).toNatClampNeg)) then r3 else (if ((r3.2 86 (x1 : Int32).toNatClampNeg) = 0) then (qF_harms_129 x1 84 x1 32 ((r3.2 84 (x1 : Int32).toNatClampNeg) / 2) r3) else (qF_harms_129 x1 84 x1 32 ((7 * (r3.2 84 (x1 : Int32).toNatClampNeg)) / 10) r3))))))))) := rfl
set_option maxRecDepth 100000 in
set_option maxHeartbeats 4000000 in
theorem qS_harms_55 {n : Nat} {Q Post : z_Mem → Prop} {x1 : Int32} {t1 : Int32} {t2 : Int32} {t0 : Nat} {o_t0 : Option Nat} {M : z_Mem} {r : q_R} (h0_t0 : 41 ≤ t0) (h1_t0 : t0 < 107) (ho_t0 : o_t0 = some (n + t0)) (S : y_S n M) (R : q_rep n M r) (H : P_X12_harms_55 (n + 40) Q x1 o_t0 t1 t2 M) (K : ∀ M1 r1, Q M1 → y_S n M1 → q_rep n M1 r1 → qF_harms_55 x1 t0 t1 t2 r = r1 → Post M1) : P_X12_harms_55 (n + 40) Post x1 o_t0 t1 t2 M := by
  subst ho_t0
  have hF := qE_harms_55 x1 t0 t1 t2 r
  unfold P_X12_harms_55 at H ⊢
  replace H := z_nne rfl H
  refine z_nn_of rfl ?_
  refine And.intro H.1 ?_
  replace H := H.2
  intro M_14 e_M_14
  replace H := H M_14 e_M_14
  have S_M_14 : y_S n M_14 := by rw [e_M_14]; exact S_sai S
  have R_M_14 := rep_sai R h0_t0 h1_t0 e_M_14
  obtain ⟨r_M_14, h_M_14⟩ := q_gen R_M_14
  replace hF := hF.trans (q_ste h_M_14.2)
  replace R_M_14 := h_M_14.1
  replace H := z_nne (s_1607_40 S_M_14) H
  refine z_nn_of (s_1607_40 S_M_14) ?_
  refine And.intro H.1 ?_
  replace H := H.2
  replace H := z_nne (s_1626_40 S_M_14) H
  refine z_nn_of (s_1626_40 S_M_14) ?_
  refine And.intro H.1 ?_
  replace H := H.2
  try simp only [qa_84 R_M_14] at H ⊢
  intro M_21 e_M_21
  replace H := H M_21 e_M_21
  have S_M_21 : y_S n M_21 := by rw [e_M_21]; exact S_sai S_M_14
  have R_M_21 := rep_sai R_M_14 (by decide) (by decide) e_M_21
  obtain ⟨r_M_21, h_M_21⟩ := q_gen R_M_21
  replace hF := hF.trans (q_ste h_M_21.2)
  replace R_M_21 := h_M_21.1
  replace H := z_nne (s_1608_40 S_M_21) H
  refine z_nn_of (s_1608_40 S_M_21) ?_
  refine And.intro H.1 ?_
  replace H := H.2
  replace H := z_nne (s_1627_40 S_M_21) H
  refine z_nn_of (s_1627_40 S_M_21) ?_
  refine And.intro H.1 ?_
  replace H := H.2
  try simp only [qa_85 R_M_21] at H ⊢
  intro M_28 e_M_28
  replace H := H M_28 e_M_28
  have S_M_28 : y_S n M_28 := by rw [e_M_28]; exact S_sai S_M_21
  have R_M_28 := rep_sai R_M_21 (by decide) (by decide) e_M_28
  obtain ⟨r_M_28, h_M_28⟩ := q_gen R_M_28
  replace hF := hF.trans (q_ste h_M_28.2)
  replace R_M_28 := h_M_28.1
  replace H := z_nne (s_1609_40 S_M_28) H
  refine z_nn_of (s_1609_40 S_M_28) ?_
  refine And.intro H.1 ?_
  replace H := H.2
  try simp only [qa_86 R_M_28] at H ⊢
  refine And.intro (fun c1 => ?_) (fun c1 => ?_)
  · replace H := H.1 c1
    replace hF := hF.trans (if_pos c1)
    exact K _ _ H S_M_28 R_M_28 hF
  · replace H := H.2 c1
    replace hF := hF.trans (if_neg c1)
    replace H := z_nne (s_1609_40 S_M_28) H
    refine z_nn_of (s_1609_40 S_M_28) ?_
    refine And.intro H.1 ?_
    replace H := H.2
    try simp only [qa_86 R_M_28] at H ⊢
    refine And.intro (fun c2 => ?_) (fun c2 => ?_)
    · replace H := H.1 c2
      replace hF := hF.trans (if_pos c2)
      replace H := z_nne (s_1607_40 S_M_28) H
      refine z_nn_of (s_1607_40 S_M_28) ?_
      refine And.intro H.1 ?_
      replace H := H.2
      try simp only [qa_84 R_M_28] at H ⊢
      exact qS_harms_129 (by decide) (by decide) (s_1607_40 S_M_28) S_M_28 R_M_28 H (fun M1 r1 q1 q2 q3 u => K M1 r1 q1 q2 q3 (hF.trans u))
    · replace H := H.2 c2
      replace hF := hF.trans (if_neg c2)
      replace H := z_nne (s_1607_40 S_M_28) H
      refine z_nn_of (s_1607_40 S_M_28) ?_
      refine And.intro H.1 ?_
      replace H := H.2
      try simp only [qa_84 R_M_28] at H ⊢
      exact qS_harms_129 (by decide) (by decide) (s_1607_40 S_M_28) S_M_28 R_M_28 H (fun M1 r1 q1 q2 q3 u => K M1 r1 q1 q2 q3 (hF.trans u))
set_option maxRecDepth 100000 in
noncomputable def qF_harms (p1 : Int32) (p2 : Int32) (p3 : Int32) (r : q_R) : q_R := (if ((r.2 100 (p1 : Int32).toNatClampNeg) ≤ p2) then (q_st (ua r 106 (5 : Int32).toNatClampNeg ((r.2 106 (5 : Int32).toNatClampNeg) + 1)) (fun r1 => (q_st (ua r1 100 (p1 : Int32).toNatClampNeg (r1.1 1606)) (fun r2 => (q_st (ua r2 101 (p1 : Int32).toNatClampNeg (r2.1 1536)) (fun r3 => (if (p3 = 0) then (qF_harms_55 p1 102 p1 (-1) r3) else (qF_harms_55 p1 102 p1 p2 r3)))))))) else r)
set_option maxRecDepth 100000 in
theorem qE_harms (p1 : Int32) (p2 : Int32) (p3 : Int32) (r : q_R) : qF_harms p1 p2 p3 r = (if ((r.2 100 (p1 : Int32).toNatClampNeg) ≤ p2) then (q_st (ua r 106 (5 : Int32).toNatClampNeg ((r.2 106 (5 : Int32).toNatClampNeg) + 1)) (fun r1 => (q_st (ua r1 100 (p1 : Int32).toNatClampNeg (r1.1 1606)) (fun r2 => (q_st (ua r2 101 (p1 : Int32).toNatClampNeg (r2.1 1536)) (fun r3 => (if (p3 = 0) then (qF_harms_55 p1 102 p1 (-1) r3) else (qF_harms_55 p1 102 p1 p2 r3)))))))) else r) := rfl
set_option maxRecDepth 100000 in
set_option maxHeartbeats 4000000 in
theorem qS_harms {n : Nat} {Q Post : z_Mem → Prop} {p1 : Int32} {p2 : Int32} {p3 : Int32} {M : z_Mem} {r : q_R} (S : y_S n M) (R : q_rep n M r) (H : P_X12_harms (n + 40) p1 p2 p3 M Q) (K : ∀ M1 r1, Q M1 → y_S n M1 → q_rep n M1 r1 → qF_harms p1 p2 p3 r = r1 → Post M1) : P_X12_harms (n + 40) p1 p2 p3 M Post := by
  have hF := qE_harms p1 p2 p3 r
  unfold P_X12_harms at H ⊢
  replace H := z_nne (s_1623_40 S) H
  refine z_nn_of (s_1623_40 S) ?_
  refine And.intro H.1 ?_
  replace H := H.2
  try simp only [qa_100 R] at H ⊢
  refine And.intro (fun c1 => ?_) (fun c1 => ?_)
  · replace H := H.1 c1
    replace hF := hF.trans (if_pos c1)
    replace H := z_nne (s_1629_40 S) H
    refine z_nn_of (s_1629_40 S) ?_
    refine And.intro H.1 ?_
    replace H := H.2
    refine And.intro H.1 ?_
    replace H := H.2
    try simp only [qa_106 R] at H ⊢
    intro M_52 e_M_52
    replace H := H M_52 e_M_52
    have S_M_52 : y_S n M_52 := by rw [e_M_52]; exact S_sai S
    have R_M_52 := rep_sai R (by decide) (by decide) e_M_52
    obtain ⟨r_M_52, h_M_52⟩ := q_gen R_M_52
    replace hF := hF.trans (q_ste h_M_52.2)
    replace R_M_52 := h_M_52.1
    replace H := z_nne (s_1623_40 S_M_52) H
    refine z_nn_of (s_1623_40 S_M_52) ?_
    refine And.intro H.1 ?_
    replace H := H.2
    try simp only [qf_1606 R_M_52] at H ⊢
    intro M_57 e_M_57
    replace H := H M_57 e_M_57
    have S_M_57 : y_S n M_57 := by rw [e_M_57]; exact S_sai S_M_52
    have R_M_57 := rep_sai R_M_52 (by decide) (by decide) e_M_57
    obtain ⟨r_M_57, h_M_57⟩ := q_gen R_M_57
    replace hF := hF.trans (q_ste h_M_57.2)
    replace R_M_57 := h_M_57.1
    replace H := z_nne (s_1624_40 S_M_57) H
    refine z_nn_of (s_1624_40 S_M_57) ?_
    refine And.intro H.1 ?_
    replace H := H.2
    try simp only [qf_1536 R_M_57] at H ⊢
    intro M_62 e_M_62
    replace H := H M_62 e_M_62
    have S_M_62 : y_S n M_62 := by rw [e_M_62]; exact S_sai S_M_57
    have R_M_62 := rep_sai R_M_57 (by decide) (by decide) e_M_62
    obtain ⟨r_M_62, h_M_62⟩ := q_gen R_M_62
    replace hF := hF.trans (q_ste h_M_62.2)
    replace R_M_62 := h_M_62.1
    refine And.intro (fun c2 => ?_) (fun c2 => ?_)
    · replace H := H.1 c2
      replace hF := hF.trans (if_pos c2)
      exact qS_harms_55 (by decide) (by decide) (s_1625_40 S_M_62) S_M_62 R_M_62 H (fun M1 r1 q1 q2 q3 u => K M1 r1 q1 q2 q3 (hF.trans u))
    · replace H := H.2 c2
      replace hF := hF.trans (if_neg c2)
      exact qS_harms_55 (by decide) (by decide) (s_1625_40 S_M_62) S_M_62 R_M_62 H (fun M1 r1 q1 q2 q3 u => K M1 r1 q1 q2 q3 (hF.trans u))
  · replace H := H.2 c1
    replace hF := hF.trans (if_neg c1)
    exact K _ _ H S R hF
set_option maxRecDepth 100000 in
noncomputable def qB_lands_9 (x1 : Int32) (x3 : Int32) (r : q_R) : (Int32 × Int32 × q_R) ⊕ q_R := (if ((r.2 75 (x1 : Int32).toNatClampNeg) ≤ x3) then (.inr r) else (q_st (ua r 70 ((((200 * (r.2 73 (x1 : Int32).toNatClampNeg)) + (r.2 74 (x1 : Int32).toNatClampNeg)) + x3) : Int32).toNatClampNeg ((r.2 70 ((((200 * (r.2 73 (x1 : Int32).toNatClampNeg)) + (r.2 74 (x1 : Int32).toNatClampNeg)) + x3) : Int32).toNatClampNeg) - 1)) (fun r1 => (q_st (x3 + 1) (fun (x_16 : Int32) => (.inl (x1, x_16, r1)))))))
set_option maxRecDepth 100000 in
noncomputable def qF_lands_9 (x1 : Int32) (x3 : Int32) (r : q_R) : q_R := q_lp (X := (Int32 × Int32 × q_R)) (Y := q_R) r (fun t => qB_lands_9 t.1 t.2.1 t.2.2) (x1, x3, r)
set_option maxRecDepth 100000 in
theorem qUl_lands_9 {x1 : Int32} {x3 : Int32} {r : q_R} {y_x1 : Int32} {y_x3 : Int32} {r1 : q_R} (h : qB_lands_9 x1 x3 r = .inl (y_x1, y_x3, r1)) : qF_lands_9 x1 x3 r = qF_lands_9 y_x1 y_x3 r1 := q_lpl (step := fun t => qB_lands_9 t.1 t.2.1 t.2.2) h
set_option maxRecDepth 100000 in
theorem qUr_lands_9 {x1 : Int32} {x3 : Int32} {r : q_R} {y : q_R} (h : qB_lands_9 x1 x3 r = .inr y) : qF_lands_9 x1 x3 r = y := q_lpr (step := fun t => qB_lands_9 t.1 t.2.1 t.2.2) h
set_option maxRecDepth 100000 in
theorem qE_lands_9 (x1 : Int32) (x3 : Int32) (r : q_R) : qB_lands_9 x1 x3 r = (if ((r.2 75 (x1 : Int32).toNatClampNeg) ≤ x3) then (.inr r) else (q_st (ua r 70 ((((200 * (r.2 73 (x1 : Int32).toNatClampNeg)) + (r.2 74 (x1 : Int32).toNatClampNeg)) + x3) : Int32).toNatClampNeg ((r.2 70 ((((200 * (r.2 73 (x1 : Int32).toNatClampNeg)) + (r.2 74 (x1 : Int32).toNatClampNeg)) + x3) : Int32).toNatClampNeg) - 1)) (fun r1 => (q_st (x3 + 1) (fun (x_16 : Int32) => (.inl (x1, x_16, r1))))))) := rfl
set_option maxRecDepth 100000 in
set_option maxHeartbeats 4000000 in
theorem qS_lands_9 {n : Nat} {Q Post : z_Mem → Prop} : ∀ (m : Nat) {x1 : Int32} {x3 : Int32} {M : z_Mem} {r : q_R} (S : y_S n M) (R : q_rep n M r) (H : P_X12_lands_9 (n + 40) Q m x1 x3 M) (K : ∀ M1 r1, Q M1 → y_S n M1 → q_rep n M1 r1 → qF_lands_9 x1 x3 r = r1 → Post M1), P_X12_lands_9 (n + 40) Post m x1 x3 M := by
  intro m
  induction m with
  | zero => intros; rename_i H _; exact False.elim H
  | succ m ih =>
    intro x1 x3 M r S R H K
    have hF := qE_lands_9 x1 x3 r
    unfold P_X12_lands_9 at H ⊢
    replace H := z_nne (s_1597_40 S) H
    refine z_nn_of (s_1597_40 S) ?_
    refine And.intro H.1 ?_
    replace H := H.2
    try simp only [qa_75 R] at H ⊢
    refine And.intro (fun c1 => ?_) (fun c1 => ?_)
    · replace H := H.1 c1
      replace hF := hF.trans (if_pos c1)
      exact K _ _ H S R (qUr_lands_9 hF)
    · replace H := H.2 c1
      replace hF := hF.trans (if_neg c1)
      replace H := z_nne (s_1595_40 S) H
      refine z_nn_of (s_1595_40 S) ?_
      refine And.intro H.1 ?_
      replace H := H.2
      replace H := z_nne (s_1596_40 S) H
      refine z_nn_of (s_1596_40 S) ?_
      refine And.intro H.1 ?_
      replace H := H.2
      replace H := z_nne (s_1592_40 S) H
      refine z_nn_of (s_1592_40 S) ?_
      refine And.intro H.1 ?_
      replace H := H.2
      refine And.intro H.1 ?_
      replace H := H.2
      try simp only [qa_70 R, qa_73 R, qa_74 R] at H ⊢
      intro M_15 e_M_15
      replace H := H M_15 e_M_15
      have S_M_15 : y_S n M_15 := by rw [e_M_15]; exact S_sai S
      have R_M_15 := rep_sai R (by decide) (by decide) e_M_15
      obtain ⟨r_M_15, h_M_15⟩ := q_gen R_M_15
      replace hF := hF.trans (q_ste h_M_15.2)
      replace R_M_15 := h_M_15.1
      intro x_16 e_x_16
      replace H := H x_16 e_x_16
      replace hF := hF.trans (q_ste e_x_16)
      replace hF := qUl_lands_9 hF
      exact ih S_M_15 R_M_15 H (fun M1 r1 q1 q2 q3 u => K M1 r1 q1 q2 q3 (hF.trans u))
set_option maxRecDepth 100000 in
noncomputable def qF_lands (p1 : Int32) (p2 : Int32) (r : q_R) : q_R := (q_st (ua r 76 (p1 : Int32).toNatClampNeg p2) (fun r1 => (qF_lands_9 p1 0 r1)))
set_option maxRecDepth 100000 in
theorem qE_lands (p1 : Int32) (p2 : Int32) (r : q_R) : qF_lands p1 p2 r = (q_st (ua r 76 (p1 : Int32).toNatClampNeg p2) (fun r1 => (qF_lands_9 p1 0 r1))) := rfl
set_option maxRecDepth 100000 in
set_option maxHeartbeats 4000000 in
theorem qS_lands {n : Nat} {Q Post : z_Mem → Prop} {p1 : Int32} {p2 : Int32} {M : z_Mem} {r : q_R} (S : y_S n M) (R : q_rep n M r) (H : P_X12_lands (n + 40) p1 p2 M Q) (K : ∀ M1 r1, Q M1 → y_S n M1 → q_rep n M1 r1 → qF_lands p1 p2 r = r1 → Post M1) : P_X12_lands (n + 40) p1 p2 M Post := by
  have hF := qE_lands p1 p2 r
  unfold P_X12_lands at H ⊢
  replace H := z_nne (s_1598_40 S) H
  refine z_nn_of (s_1598_40 S) ?_
  refine And.intro H.1 ?_
  replace H := H.2
  intro M_20 e_M_20
  replace H := H M_20 e_M_20
  have S_M_20 : y_S n M_20 := by rw [e_M_20]; exact S_sai S
  have R_M_20 := rep_sai R (by decide) (by decide) e_M_20
  obtain ⟨r_M_20, h_M_20⟩ := q_gen R_M_20
  replace hF := hF.trans (q_ste h_M_20.2)
  replace R_M_20 := h_M_20.1
  obtain ⟨m, H⟩ := H
  refine ⟨m, ?_⟩
  exact qS_lands_9 m S_M_20 R_M_20 H (fun M1 r1 q1 q2 q3 u => K M1 r1 q1 q2 q3 (hF.trans u))
set_option maxRecDepth 100000 in
noncomputable def qF_loses (p1 : Int32) (r : q_R) : q_R := (q_st (qF_lands p1 2 r) (fun r1 => (q_st (ua r1 106 (0 : Int32).toNatClampNeg ((r1.2 106 (0 : Int32).toNatClampNeg) + 1)) (fun r2 => (q_st (qF_harms (r2.2 71 (p1 : Int32).toNatClampNeg) p1 1 r2) (fun r3 => r3))))))
set_option maxRecDepth 100000 in
theorem qE_loses (p1 : Int32) (r : q_R) : qF_loses p1 r = (q_st (qF_lands p1 2 r) (fun r1 => (q_st (ua r1 106 (0 : Int32).toNatClampNeg ((r1.2 106 (0 : Int32).toNatClampNeg) + 1)) (fun r2 => (q_st (qF_harms (r2.2 71 (p1 : Int32).toNatClampNeg) p1 1 r2) (fun r3 => r3)))))) := rfl
set_option maxRecDepth 100000 in
set_option maxHeartbeats 4000000 in
theorem qS_loses {n : Nat} {Q Post : z_Mem → Prop} {p1 : Int32} {M : z_Mem} {r : q_R} (S : y_S n M) (R : q_rep n M r) (H : P_X12_loses (n + 40) p1 M Q) (K : ∀ M1 r1, Q M1 → y_S n M1 → q_rep n M1 r1 → qF_loses p1 r = r1 → Post M1) : P_X12_loses (n + 40) p1 M Post := by
  have hF := qE_loses p1 r
  unfold P_X12_loses at H ⊢
  refine qS_lands S R H (fun M_1 r_M_1 H S_M_1 R_M_1 u => ?_)
  replace hF := hF.trans (q_ste u.symm)
  replace H := z_nne (s_1629_40 S_M_1) H
  refine z_nn_of (s_1629_40 S_M_1) ?_
  refine And.intro H.1 ?_
  replace H := H.2
  refine And.intro H.1 ?_
  replace H := H.2
  try simp only [qa_106 R_M_1] at H ⊢
  intro M_6 e_M_6
  replace H := H M_6 e_M_6
  have S_M_6 : y_S n M_6 := by rw [e_M_6]; exact S_sai S_M_1
  have R_M_6 := rep_sai R_M_1 (by decide) (by decide) e_M_6
  obtain ⟨r_M_6, h_M_6⟩ := q_gen R_M_6
  replace hF := hF.trans (q_ste h_M_6.2)
  replace R_M_6 := h_M_6.1
  replace H := z_nne (s_1593_40 S_M_6) H
  refine z_nn_of (s_1593_40 S_M_6) ?_
  refine And.intro H.1 ?_
  replace H := H.2
  try simp only [qa_71 R_M_6] at H ⊢
  refine qS_harms S_M_6 R_M_6 H (fun M_10 r_M_10 H S_M_10 R_M_10 u => ?_)
  replace hF := hF.trans (q_ste u.symm)
  exact K _ _ H S_M_10 R_M_10 hF
set_option maxRecDepth 100000 in
noncomputable def qF_losesByOrder_51 (x1 : Int32) (x2 : Int32) (r : q_R) : ((Int32 × Int32 × q_R) ⊕ q_R) := (q_st (x2 + 1) (fun (x_1 : Int32) => (.inl (x1, x_1, r))))
set_option maxRecDepth 100000 in
theorem qE_losesByOrder_51 (x1 : Int32) (x2 : Int32) (r : q_R) : qF_losesByOrder_51 x1 x2 r = (q_st (x2 + 1) (fun (x_1 : Int32) => (.inl (x1, x_1, r)))) := rfl
set_option maxRecDepth 100000 in
set_option maxHeartbeats 4000000 in
theorem qS_losesByOrder_51 {n : Nat} {Q Post : z_Mem → Prop} {QJ2 PJ2 : Int32 → Int32 → z_Mem → Prop} {x1 : Int32} {x2 : Int32} {M : z_Mem} {r : q_R} (S : y_S n M) (R : q_rep n M r) (H : P_X12_losesByOrder_51 (n + 40) Q QJ2 x1 x2 M) (K : ∀ M1 r1, Q M1 → y_S n M1 → q_rep n M1 r1 → qF_losesByOrder_51 x1 x2 r = (.inr r1) → Post M1) (KJ2 : ∀ v0 v1 M1 r1, QJ2 v0 v1 M1 → y_S n M1 → q_rep n M1 r1 → qF_losesByOrder_51 x1 x2 r = (.inl (v0, v1, r1)) → PJ2 v0 v1 M1) : P_X12_losesByOrder_51 (n + 40) Post PJ2 x1 x2 M := by
  have hF := qE_losesByOrder_51 x1 x2 r
  unfold P_X12_losesByOrder_51 at H ⊢
  intro x_1 e_x_1
  replace H := H x_1 e_x_1
  replace hF := hF.trans (q_ste e_x_1)
  exact KJ2 _ _ _ _ H S R hF
set_option maxRecDepth 100000 in
noncomputable def qB_losesByOrder_2 (x1 : Int32) (x2 : Int32) (r : q_R) : (Int32 × Int32 × q_R) ⊕ q_R := (if ((r.1 1606) ≤ x2) then (.inr r) else (if ((r.2 71 (x2 : Int32).toNatClampNeg) = x1) then (if ((r.2 76 (x2 : Int32).toNatClampNeg) = 0) then (if ((r.2 94 (x1 : Int32).toNatClampNeg) < ((r.2 82 (x2 : Int32).toNatClampNeg) + 3)) then (qF_losesByOrder_51 x1 x2 r) else (q_st (qF_loses x2 r) (fun r1 => (qF_losesByOrder_51 x1 x2 r1)))) else (qF_losesByOrder_51 x1 x2 r)) else (qF_losesByOrder_51 x1 x2 r)))
set_option maxRecDepth 100000 in
noncomputable def qF_losesByOrder_2 (x1 : Int32) (x2 : Int32) (r : q_R) : q_R := q_lp (X := (Int32 × Int32 × q_R)) (Y := q_R) r (fun t => qB_losesByOrder_2 t.1 t.2.1 t.2.2) (x1, x2, r)
set_option maxRecDepth 100000 in
theorem qUl_losesByOrder_2 {x1 : Int32} {x2 : Int32} {r : q_R} {y_x1 : Int32} {y_x2 : Int32} {r1 : q_R} (h : qB_losesByOrder_2 x1 x2 r = .inl (y_x1, y_x2, r1)) : qF_losesByOrder_2 x1 x2 r = qF_losesByOrder_2 y_x1 y_x2 r1 := q_lpl (step := fun t => qB_losesByOrder_2 t.1 t.2.1 t.2.2) h
set_option maxRecDepth 100000 in
theorem qUr_losesByOrder_2 {x1 : Int32} {x2 : Int32} {r : q_R} {y : q_R} (h : qB_losesByOrder_2 x1 x2 r = .inr y) : qF_losesByOrder_2 x1 x2 r = y := q_lpr (step := fun t => qB_losesByOrder_2 t.1 t.2.1 t.2.2) h
set_option maxRecDepth 100000 in
theorem qE_losesByOrder_2 (x1 : Int32) (x2 : Int32) (r : q_R) : qB_losesByOrder_2 x1 x2 r = (if ((r.1 1606) ≤ x2) then (.inr r) else (if ((r.2 71 (x2 : Int32).toNatClampNeg) = x1) then (if ((r.2 76 (x2 : Int32).toNatClampNeg) = 0) then (if ((r.2 94 (x1 : Int32).toNatClampNeg) < ((r.2 82 (x2 : Int32).toNatClampNeg) + 3)) then (qF_losesByOrder_51 x1 x2 r) else (q_st (qF_loses x2 r) (fun r1 => (qF_losesByOrder_51 x1 x2 r1)))) else (qF_losesByOrder_51 x1 x2 r)) else (qF_losesByOrder_51 x1 x2 r))) := rfl
set_option maxRecDepth 100000 in
set_option maxHeartbeats 4000000 in
theorem qS_losesByOrder_2 {n : Nat} {Q Post : z_Mem → Prop} : ∀ (m : Nat) {x1 : Int32} {x2 : Int32} {M : z_Mem} {r : q_R} (S : y_S n M) (R : q_rep n M r) (H : P_X12_losesByOrder_2 (n + 40) Q m x1 x2 M) (K : ∀ M1 r1, Q M1 → y_S n M1 → q_rep n M1 r1 → qF_losesByOrder_2 x1 x2 r = r1 → Post M1), P_X12_losesByOrder_2 (n + 40) Post m x1 x2 M := by
  intro m
  induction m with
  | zero => intros; rename_i H _; exact False.elim H
  | succ m ih =>
    intro x1 x2 M r S R H K
    have hF := qE_losesByOrder_2 x1 x2 r
    unfold P_X12_losesByOrder_2 at H ⊢
    try simp only [qf_1606 R] at H ⊢
    refine And.intro (fun c1 => ?_) (fun c1 => ?_)
    · replace H := H.1 c1
      replace hF := hF.trans (if_pos c1)
      exact K _ _ H S R (qUr_losesByOrder_2 hF)
    · replace H := H.2 c1
      replace hF := hF.trans (if_neg c1)
      replace H := z_nne (s_1593_40 S) H
      refine z_nn_of (s_1593_40 S) ?_
      refine And.intro H.1 ?_
      replace H := H.2
      try simp only [qa_71 R] at H ⊢
      refine And.intro (fun c2 => ?_) (fun c2 => ?_)
      · replace H := H.1 c2
        replace hF := hF.trans (if_pos c2)
        replace H := z_nne (s_1598_40 S) H
        refine z_nn_of (s_1598_40 S) ?_
        refine And.intro H.1 ?_
        replace H := H.2
        try simp only [qa_76 R] at H ⊢
        refine And.intro (fun c3 => ?_) (fun c3 => ?_)
        · replace H := H.1 c3
          replace hF := hF.trans (if_pos c3)
          replace H := z_nne (s_1617_40 S) H
          refine z_nn_of (s_1617_40 S) ?_
          refine And.intro H.1 ?_
          replace H := H.2
          replace H := z_nne (s_1604_40 S) H
          refine z_nn_of (s_1604_40 S) ?_
          refine And.intro H.1 ?_
          replace H := H.2
          try simp only [qa_82 R, qa_94 R] at H ⊢
          refine And.intro (fun c4 => ?_) (fun c4 => ?_)
          · replace H := H.1 c4
            replace hF := hF.trans (if_pos c4)
            exact qS_losesByOrder_51 S R H (fun M1 r1 q1 q2 q3 u => K M1 r1 q1 q2 q3 (qUr_losesByOrder_2 (hF.trans u))) (fun v0 v1 M1 r1 q1 q2 q3 u => ih q2 q3 q1 (fun M1 r1 q1 q2 q3 u2 => K M1 r1 q1 q2 q3 ((qUl_losesByOrder_2 (hF.trans u)).trans u2))) 
          · replace H := H.2 c4
            replace hF := hF.trans (if_neg c4)
            refine qS_loses S R H (fun M_19 r_M_19 H S_M_19 R_M_19 u => ?_)
            replace hF := hF.trans (q_ste u.symm)
            exact qS_losesByOrder_51 S_M_19 R_M_19 H (fun M1 r1 q1 q2 q3 u => K M1 r1 q1 q2 q3 (qUr_losesByOrder_2 (hF.trans u))) (fun v0 v1 M1 r1 q1 q2 q3 u => ih q2 q3 q1 (fun M1 r1 q1 q2 q3 u2 => K M1 r1 q1 q2 q3 ((qUl_losesByOrder_2 (hF.trans u)).trans u2))) 
        · replace H := H.2 c3
          replace hF := hF.trans (if_neg c3)
          exact qS_losesByOrder_51 S R H (fun M1 r1 q1 q2 q3 u => K M1 r1 q1 q2 q3 (qUr_losesByOrder_2 (hF.trans u))) (fun v0 v1 M1 r1 q1 q2 q3 u => ih q2 q3 q1 (fun M1 r1 q1 q2 q3 u2 => K M1 r1 q1 q2 q3 ((qUl_losesByOrder_2 (hF.trans u)).trans u2))) 
      · replace H := H.2 c2
        replace hF := hF.trans (if_neg c2)
        exact qS_losesByOrder_51 S R H (fun M1 r1 q1 q2 q3 u => K M1 r1 q1 q2 q3 (qUr_losesByOrder_2 (hF.trans u))) (fun v0 v1 M1 r1 q1 q2 q3 u => ih q2 q3 q1 (fun M1 r1 q1 q2 q3 u2 => K M1 r1 q1 q2 q3 ((qUl_losesByOrder_2 (hF.trans u)).trans u2))) 
set_option maxRecDepth 100000 in
noncomputable def qF_losesByOrder (p1 : Int32) (r : q_R) : q_R := (qF_losesByOrder_2 p1 0 r)
set_option maxRecDepth 100000 in
theorem qE_losesByOrder (p1 : Int32) (r : q_R) : qF_losesByOrder p1 r = (qF_losesByOrder_2 p1 0 r) := rfl
set_option maxRecDepth 100000 in
set_option maxHeartbeats 4000000 in
theorem qS_losesByOrder {n : Nat} {Q Post : z_Mem → Prop} {p1 : Int32} {M : z_Mem} {r : q_R} (S : y_S n M) (R : q_rep n M r) (H : P_X12_losesByOrder (n + 40) p1 M Q) (K : ∀ M1 r1, Q M1 → y_S n M1 → q_rep n M1 r1 → qF_losesByOrder p1 r = r1 → Post M1) : P_X12_losesByOrder (n + 40) p1 M Post := by
  have hF := qE_losesByOrder p1 r
  unfold P_X12_losesByOrder at H ⊢
  obtain ⟨m, H⟩ := H
  refine ⟨m, ?_⟩
  exact qS_losesByOrder_2 m S R H (fun M1 r1 q1 q2 q3 u => K M1 r1 q1 q2 q3 (hF.trans u))
set_option maxRecDepth 100000 in
noncomputable def qF_losesByTime_93 (x1 : Int32) (x2 : Int32) (r : q_R) : ((Int32 × Int32 × q_R) ⊕ q_R) := (q_st (x2 + 1) (fun (x_1 : Int32) => (.inl (x1, x_1, r))))
set_option maxRecDepth 100000 in
theorem qE_losesByTime_93 (x1 : Int32) (x2 : Int32) (r : q_R) : qF_losesByTime_93 x1 x2 r = (q_st (x2 + 1) (fun (x_1 : Int32) => (.inl (x1, x_1, r)))) := rfl
set_option maxRecDepth 100000 in
set_option maxHeartbeats 4000000 in
theorem qS_losesByTime_93 {n : Nat} {Q Post : z_Mem → Prop} {QJ2 PJ2 : Int32 → Int32 → z_Mem → Prop} {x1 : Int32} {x2 : Int32} {M : z_Mem} {r : q_R} (S : y_S n M) (R : q_rep n M r) (H : P_X12_losesByTime_93 (n + 40) Q QJ2 x1 x2 M) (K : ∀ M1 r1, Q M1 → y_S n M1 → q_rep n M1 r1 → qF_losesByTime_93 x1 x2 r = (.inr r1) → Post M1) (KJ2 : ∀ v0 v1 M1 r1, QJ2 v0 v1 M1 → y_S n M1 → q_rep n M1 r1 → qF_losesByTime_93 x1 x2 r = (.inl (v0, v1, r1)) → PJ2 v0 v1 M1) : P_X12_losesByTime_93 (n + 40) Post PJ2 x1 x2 M := by
  have hF := qE_losesByTime_93 x1 x2 r
  unfold P_X12_losesByTime_93 at H ⊢
  intro x_1 e_x_1
  replace H := H x_1 e_x_1
  replace hF := hF.trans (q_ste e_x_1)
  exact KJ2 _ _ _ _ H S R hF
set_option maxRecDepth 100000 in
noncomputable def qB_losesByTime_2 (x1 : Int32) (x2 : Int32) (r : q_R) : (Int32 × Int32 × q_R) ⊕ q_R := (if ((r.1 1606) ≤ x2) then (.inr r) else (q_st2 (qF_max ((r.2 87 (x1 : Int32).toNatClampNeg) / 8) (r.2 90 (x1 : Int32).toNatClampNeg) r) (fun (x_10 : Int32) r1 => (q_st2 (qF_max 1 ((9 * x_10) / 8) r1) (fun (x_11 : Int32) r2 => (if ((r2.2 71 (x2 : Int32).toNatClampNeg) = x1) then (if ((r2.2 76 (x2 : Int32).toNatClampNeg) = 0) then (if ((r2.2 94 (x1 : Int32).toNatClampNeg) ≤ (r2.2 82 (x2 : Int32).toNatClampNeg)) then (qF_losesByTime_93 x1 x2 r2) else (if (((r2.1 1536) - (r2.2 72 (x2 : Int32).toNatClampNeg)) < x_11) then (qF_losesByTime_93 x1 x2 r2) else (q_st (qF_loses x2 r2) (fun r3 => (qF_losesByTime_93 x1 x2 r3))))) else (qF_losesByTime_93 x1 x2 r2)) else (qF_losesByTime_93 x1 x2 r2)))))))
set_option maxRecDepth 100000 in
noncomputable def qF_losesByTime_2 (x1 : Int32) (x2 : Int32) (r : q_R) : q_R := q_lp (X := (Int32 × Int32 × q_R)) (Y := q_R) r (fun t => qB_losesByTime_2 t.1 t.2.1 t.2.2) (x1, x2, r)
set_option maxRecDepth 100000 in
theorem qUl_losesByTime_2 {x1 : Int32} {x2 : Int32} {r : q_R} {y_x1 : Int32} {y_x2 : Int32} {r1 : q_R} (h : qB_losesByTime_2 x1 x2 r = .inl (y_x1, y_x2, r1)) : qF_losesByTime_2 x1 x2 r = qF_losesByTime_2 y_x1 y_x2 r1 := q_lpl (step := fun t => qB_losesByTime_2 t.1 t.2.1 t.2.2) h
set_option maxRecDepth 100000 in
theorem qUr_losesByTime_2 {x1 : Int32} {x2 : Int32} {r : q_R} {y : q_R} (h : qB_losesByTime_2 x1 x2 r = .inr y) : qF_losesByTime_2 x1 x2 r = y := q_lpr (step := fun t => qB_losesByTime_2 t.1 t.2.1 t.2.2) h
set_option maxRecDepth 100000 in
theorem qE_losesByTime_2 (x1 : Int32) (x2 : Int32) (r : q_R) : qB_losesByTime_2 x1 x2 r = (if ((r.1 1606) ≤ x2) then (.inr r) else (q_st2 (qF_max ((r.2 87 (x1 : Int32).toNatClampNeg) / 8) (r.2 90 (x1 : Int32).toNatClampNeg) r) (fun (x_10 : Int32) r1 => (q_st2 (qF_max 1 ((9 * x_10) / 8) r1) (fun (x_11 : Int32) r2 => (if ((r2.2 71 (x2 : Int32).toNatClampNeg) = x1) then (if ((r2.2 76 (x2 : Int32).toNatClampNeg) = 0) then (if ((r2.2 94 (x1 : Int32).toNatClampNeg) ≤ (r2.2 82 (x2 : Int32).toNatClampNeg)) then (qF_losesByTime_93 x1 x2 r2) else (if (((r2.1 1536) - (r2.2 72 (x2 : Int32).toNatClampNeg)) < x_11) then (qF_losesByTime_93 x1 x2 r2) else (q_st (qF_loses x2 r2) (fun r3 => (qF_losesByTime_93 x1 x2 r3))))) else (qF_losesByTime_93 x1 x2 r2)) else (qF_losesByTime_93 x1 x2 r2))))))) := rfl
set_option maxRecDepth 100000 in
set_option maxHeartbeats 4000000 in
theorem qS_losesByTime_2 {n : Nat} {Q Post : z_Mem → Prop} : ∀ (m : Nat) {x1 : Int32} {x2 : Int32} {M : z_Mem} {r : q_R} (S : y_S n M) (R : q_rep n M r) (H : P_X12_losesByTime_2 (n + 40) Q m x1 x2 M) (K : ∀ M1 r1, Q M1 → y_S n M1 → q_rep n M1 r1 → qF_losesByTime_2 x1 x2 r = r1 → Post M1), P_X12_losesByTime_2 (n + 40) Post m x1 x2 M := by
  intro m
  induction m with
  | zero => intros; rename_i H _; exact False.elim H
  | succ m ih =>
    intro x1 x2 M r S R H K
    have hF := qE_losesByTime_2 x1 x2 r
    unfold P_X12_losesByTime_2 at H ⊢
    try simp only [qf_1606 R] at H ⊢
    refine And.intro (fun c1 => ?_) (fun c1 => ?_)
    · replace H := H.1 c1
      replace hF := hF.trans (if_pos c1)
      exact K _ _ H S R (qUr_losesByTime_2 hF)
    · replace H := H.2 c1
      replace hF := hF.trans (if_neg c1)
      replace H := z_nne (s_1610_40 S) H
      refine z_nn_of (s_1610_40 S) ?_
      refine And.intro H.1 ?_
      replace H := H.2
      replace H := z_nne (s_1613_40 S) H
      refine z_nn_of (s_1613_40 S) ?_
      refine And.intro H.1 ?_
      replace H := H.2
      try simp only [qa_87 R, qa_90 R] at H ⊢
      refine qS_max S R H (fun x_10 M_10 r_M_10 H S_M_10 R_M_10 u => ?_)
      replace hF := hF.trans (q_ste2 u)
      refine qS_max S_M_10 R_M_10 H (fun x_11 M_11 r_M_11 H S_M_11 R_M_11 u => ?_)
      replace hF := hF.trans (q_ste2 u)
      replace H := z_nne (s_1593_40 S_M_11) H
      refine z_nn_of (s_1593_40 S_M_11) ?_
      refine And.intro H.1 ?_
      replace H := H.2
      try simp only [qa_71 R_M_11] at H ⊢
      refine And.intro (fun c2 => ?_) (fun c2 => ?_)
      · replace H := H.1 c2
        replace hF := hF.trans (if_pos c2)
        replace H := z_nne (s_1598_40 S_M_11) H
        refine z_nn_of (s_1598_40 S_M_11) ?_
        refine And.intro H.1 ?_
        replace H := H.2
        try simp only [qa_76 R_M_11] at H ⊢
        refine And.intro (fun c3 => ?_) (fun c3 => ?_)
        · replace H := H.1 c3
          replace hF := hF.trans (if_pos c3)
          replace H := z_nne (s_1617_40 S_M_11) H
          refine z_nn_of (s_1617_40 S_M_11) ?_
          refine And.intro H.1 ?_
          replace H := H.2
          replace H := z_nne (s_1604_40 S_M_11) H
          refine z_nn_of (s_1604_40 S_M_11) ?_
          refine And.intro H.1 ?_
          replace H := H.2
          try simp only [qa_82 R_M_11, qa_94 R_M_11] at H ⊢
          refine And.intro (fun c4 => ?_) (fun c4 => ?_)
          · replace H := H.1 c4
            replace hF := hF.trans (if_pos c4)
            exact qS_losesByTime_93 S_M_11 R_M_11 H (fun M1 r1 q1 q2 q3 u => K M1 r1 q1 q2 q3 (qUr_losesByTime_2 (hF.trans u))) (fun v0 v1 M1 r1 q1 q2 q3 u => ih q2 q3 q1 (fun M1 r1 q1 q2 q3 u2 => K M1 r1 q1 q2 q3 ((qUl_losesByTime_2 (hF.trans u)).trans u2))) 
          · replace H := H.2 c4
            replace hF := hF.trans (if_neg c4)
            replace H := z_nne (s_1594_40 S_M_11) H
            refine z_nn_of (s_1594_40 S_M_11) ?_
            refine And.intro H.1 ?_
            replace H := H.2
            try simp only [qa_72 R_M_11, qf_1536 R_M_11] at H ⊢
            refine And.intro (fun c5 => ?_) (fun c5 => ?_)
            · replace H := H.1 c5
              replace hF := hF.trans (if_pos c5)
              exact qS_losesByTime_93 S_M_11 R_M_11 H (fun M1 r1 q1 q2 q3 u => K M1 r1 q1 q2 q3 (qUr_losesByTime_2 (hF.trans u))) (fun v0 v1 M1 r1 q1 q2 q3 u => ih q2 q3 q1 (fun M1 r1 q1 q2 q3 u2 => K M1 r1 q1 q2 q3 ((qUl_losesByTime_2 (hF.trans u)).trans u2))) 
            · replace H := H.2 c5
              replace hF := hF.trans (if_neg c5)
              refine qS_loses S_M_11 R_M_11 H (fun M_32 r_M_32 H S_M_32 R_M_32 u => ?_)
              replace hF := hF.trans (q_ste u.symm)
              exact qS_losesByTime_93 S_M_32 R_M_32 H (fun M1 r1 q1 q2 q3 u => K M1 r1 q1 q2 q3 (qUr_losesByTime_2 (hF.trans u))) (fun v0 v1 M1 r1 q1 q2 q3 u => ih q2 q3 q1 (fun M1 r1 q1 q2 q3 u2 => K M1 r1 q1 q2 q3 ((qUl_losesByTime_2 (hF.trans u)).trans u2))) 
        · replace H := H.2 c3
          replace hF := hF.trans (if_neg c3)
          exact qS_losesByTime_93 S_M_11 R_M_11 H (fun M1 r1 q1 q2 q3 u => K M1 r1 q1 q2 q3 (qUr_losesByTime_2 (hF.trans u))) (fun v0 v1 M1 r1 q1 q2 q3 u => ih q2 q3 q1 (fun M1 r1 q1 q2 q3 u2 => K M1 r1 q1 q2 q3 ((qUl_losesByTime_2 (hF.trans u)).trans u2))) 
      · replace H := H.2 c2
        replace hF := hF.trans (if_neg c2)
        exact qS_losesByTime_93 S_M_11 R_M_11 H (fun M1 r1 q1 q2 q3 u => K M1 r1 q1 q2 q3 (qUr_losesByTime_2 (hF.trans u))) (fun v0 v1 M1 r1 q1 q2 q3 u => ih q2 q3 q1 (fun M1 r1 q1 q2 q3 u2 => K M1 r1 q1 q2 q3 ((qUl_losesByTime_2 (hF.trans u)).trans u2))) 
set_option maxRecDepth 100000 in
noncomputable def qF_losesByTime (p1 : Int32) (r : q_R) : q_R := (qF_losesByTime_2 p1 0 r)
set_option maxRecDepth 100000 in
theorem qE_losesByTime (p1 : Int32) (r : q_R) : qF_losesByTime p1 r = (qF_losesByTime_2 p1 0 r) := rfl
set_option maxRecDepth 100000 in
set_option maxHeartbeats 4000000 in
theorem qS_losesByTime {n : Nat} {Q Post : z_Mem → Prop} {p1 : Int32} {M : z_Mem} {r : q_R} (S : y_S n M) (R : q_rep n M r) (H : P_X12_losesByTime (n + 40) p1 M Q) (K : ∀ M1 r1, Q M1 → y_S n M1 → q_rep n M1 r1 → qF_losesByTime p1 r = r1 → Post M1) : P_X12_losesByTime (n + 40) p1 M Post := by
  have hF := qE_losesByTime p1 r
  unfold P_X12_losesByTime at H ⊢
  obtain ⟨m, H⟩ := H
  refine ⟨m, ?_⟩
  exact qS_losesByTime_2 m S R H (fun M1 r1 q1 q2 q3 u => K M1 r1 q1 q2 q3 (hF.trans u))
set_option maxRecDepth 100000 in
noncomputable def qB_hearsOf_50 (x1 : Int32) (x2 : Int32) (x3 : Int32) (r : q_R) : (Int32 × Int32 × Int32 × q_R) ⊕ q_R := (if ((r.2 75 (x1 : Int32).toNatClampNeg) ≤ x3) then (if ((r.2 76 (x1 : Int32).toNatClampNeg) = 0) then (q_st (qF_lands x1 1 r) (fun r1 => (q_st (qF_grows x1 r1) (fun r2 => (.inr r2))))) else (q_st (ua r 76 (x1 : Int32).toNatClampNeg 3) (fun r3 => (q_st (ua r3 106 (1 : Int32).toNatClampNeg ((r3.2 106 (1 : Int32).toNatClampNeg) + 1)) (fun r4 => (if ((r4.2 102 (x2 : Int32).toNatClampNeg) = x1) then (q_st (ua r4 102 (x2 : Int32).toNatClampNeg (-1)) (fun r5 => (q_st2 (qF_max (r5.2 84 (x2 : Int32).toNatClampNeg) (r5.2 103 (x2 : Int32).toNatClampNeg) r5) (fun (x_33 : Int32) r6 => (q_st (ua r6 84 (x2 : Int32).toNatClampNeg x_33) (fun r7 => (q_st2 (qF_max (r7.2 85 (x2 : Int32).toNatClampNeg) (r7.2 104 (x2 : Int32).toNatClampNeg) r7) (fun (x_44 : Int32) r8 => (q_st (ua r8 85 (x2 : Int32).toNatClampNeg x_44) (fun r9 => (.inr r9))))))))))) else (.inr r4))))))) else (q_st (ua r 69 ((((200 * (r.2 73 (x1 : Int32).toNatClampNeg)) + (r.2 74 (x1 : Int32).toNatClampNeg)) + x3) : Int32).toNatClampNeg 1) (fun r10 => (q_st (x3 + 1) (fun (x_60 : Int32) => (.inl (x1, x2, x_60, r10)))))))
set_option maxRecDepth 100000 in
noncomputable def qF_hearsOf_50 (x1 : Int32) (x2 : Int32) (x3 : Int32) (r : q_R) : q_R := q_lp (X := (Int32 × Int32 × Int32 × q_R)) (Y := q_R) r (fun t => qB_hearsOf_50 t.1 t.2.1 t.2.2.1 t.2.2.2) (x1, x2, x3, r)
set_option maxRecDepth 100000 in
theorem qUl_hearsOf_50 {x1 : Int32} {x2 : Int32} {x3 : Int32} {r : q_R} {y_x1 : Int32} {y_x2 : Int32} {y_x3 : Int32} {r1 : q_R} (h : qB_hearsOf_50 x1 x2 x3 r = .inl (y_x1, y_x2, y_x3, r1)) : qF_hearsOf_50 x1 x2 x3 r = qF_hearsOf_50 y_x1 y_x2 y_x3 r1 := q_lpl (step := fun t => qB_hearsOf_50 t.1 t.2.1 t.2.2.1 t.2.2.2) h
set_option maxRecDepth 100000 in
theorem qUr_hearsOf_50 {x1 : Int32} {x2 : Int32} {x3 : Int32} {r : q_R} {y : q_R} (h : qB_hearsOf_50 x1 x2 x3 r = .inr y) : qF_hearsOf_50 x1 x2 x3 r = y := q_lpr (step := fun t => qB_hearsOf_50 t.1 t.2.1 t.2.2.1 t.2.2.2) h
set_option maxRecDepth 100000 in
theorem qE_hearsOf_50 (x1 : Int32) (x2 : Int32) (x3 : Int32) (r : q_R) : qB_hearsOf_50 x1 x2 x3 r = (if ((r.2 75 (x1 : Int32).toNatClampNeg) ≤ x3) then (if ((r.2 76 (x1 : Int32).toNatClampNeg) = 0) then (q_st (qF_lands x1 1 r) (fun r1 => (q_st (qF_grows x1 r1) (fun r2 => (.inr r2))))) else (q_st (ua r 76 (x1 : Int32).toNatClampNeg 3) (fun r3 => (q_st (ua r3 106 (1 : Int32).toNatClampNeg ((r3.2 106 (1 : Int32).toNatClampNeg) + 1)) (fun r4 => (if ((r4.2 102 (x2 : Int32).toNatClampNeg) = x1) then (q_st (ua r4 102 (x2 : Int32).toNatClampNeg (-1)) (fun r5 => (q_st2 (qF_max (r5.2 84 (x2 : Int32).toNatClampNeg) (r5.2 103 (x2 : Int32).toNatClampNeg) r5) (fun (x_33 : Int32) r6 => (q_st (ua r6 84 (x2 : Int32).toNatClampNeg x_33) (fun r7 => (q_st2 (qF_max (r7.2 85 (x2 : Int32).toNatClampNeg) (r7.2 104 (x2 : Int32).toNatClampNeg) r7) (fun (x_44 : Int32) r8 => (q_st (ua r8 85 (x2 : Int32).toNatClampNeg x_44) (fun r9 => (.inr r9))))))))))) else (.inr r4))))))) else (q_st (ua r 69 ((((200 * (r.2 73 (x1 : Int32).toNatClampNeg)) + (r.2 74 (x1 : Int32).toNatClampNeg)) + x3) : Int32).toNatClampNeg 1) (fun r10 => (q_st (x3 + 1) (fun (x_60 : Int32) => (.inl (x1, x2, x_60, r10))))))) := rfl
set_option maxRecDepth 100000 in
set_option maxHeartbeats 4000000 in
theorem qS_hearsOf_50 {n : Nat} {Q Post : z_Mem → Prop} : ∀ (m : Nat) {x1 : Int32} {x2 : Int32} {x3 : Int32} {M : z_Mem} {r : q_R} (S : y_S n M) (R : q_rep n M r) (H : P_X12_hearsOf_50 (n + 40) Q m x1 x2 x3 M) (K : ∀ M1 r1, Q M1 → y_S n M1 → q_rep n M1 r1 → qF_hearsOf_50 x1 x2 x3 r = r1 → Post M1), P_X12_hearsOf_50 (n + 40) Post m x1 x2 x3 M := by
  intro m
  induction m with
  | zero => intros; rename_i H _; exact False.elim H
  | succ m ih =>
    intro x1 x2 x3 M r S R H K
    have hF := qE_hearsOf_50 x1 x2 x3 r
    unfold P_X12_hearsOf_50 at H ⊢
    replace H := z_nne (s_1597_40 S) H
    refine z_nn_of (s_1597_40 S) ?_
    refine And.intro H.1 ?_
    replace H := H.2
    try simp only [qa_75 R] at H ⊢
    refine And.intro (fun c1 => ?_) (fun c1 => ?_)
    · replace H := H.1 c1
      replace hF := hF.trans (if_pos c1)
      replace H := z_nne (s_1598_40 S) H
      refine z_nn_of (s_1598_40 S) ?_
      refine And.intro H.1 ?_
      replace H := H.2
      try simp only [qa_76 R] at H ⊢
      refine And.intro (fun c2 => ?_) (fun c2 => ?_)
      · replace H := H.1 c2
        replace hF := hF.trans (if_pos c2)
        refine qS_lands S R H (fun M_48 r_M_48 H S_M_48 R_M_48 u => ?_)
        replace hF := hF.trans (q_ste u.symm)
        refine qS_grows S_M_48 R_M_48 H (fun M_49 r_M_49 H S_M_49 R_M_49 u => ?_)
        replace hF := hF.trans (q_ste u.symm)
        exact K _ _ H S_M_49 R_M_49 (qUr_hearsOf_50 hF)
      · replace H := H.2 c2
        replace hF := hF.trans (if_neg c2)
        replace H := z_nne (s_1598_40 S) H
        refine z_nn_of (s_1598_40 S) ?_
        refine And.intro H.1 ?_
        replace H := H.2
        intro M_12 e_M_12
        replace H := H M_12 e_M_12
        have S_M_12 : y_S n M_12 := by rw [e_M_12]; exact S_sai S
        have R_M_12 := rep_sai R (by decide) (by decide) e_M_12
        obtain ⟨r_M_12, h_M_12⟩ := q_gen R_M_12
        replace hF := hF.trans (q_ste h_M_12.2)
        replace R_M_12 := h_M_12.1
        replace H := z_nne (s_1629_40 S_M_12) H
        refine z_nn_of (s_1629_40 S_M_12) ?_
        refine And.intro H.1 ?_
        replace H := H.2
        refine And.intro H.1 ?_
        replace H := H.2
        try simp only [qa_106 R_M_12] at H ⊢
        intro M_17 e_M_17
        replace H := H M_17 e_M_17
        have S_M_17 : y_S n M_17 := by rw [e_M_17]; exact S_sai S_M_12
        have R_M_17 := rep_sai R_M_12 (by decide) (by decide) e_M_17
        obtain ⟨r_M_17, h_M_17⟩ := q_gen R_M_17
        replace hF := hF.trans (q_ste h_M_17.2)
        replace R_M_17 := h_M_17.1
        replace H := z_nne (s_1625_40 S_M_17) H
        refine z_nn_of (s_1625_40 S_M_17) ?_
        refine And.intro H.1 ?_
        replace H := H.2
        try simp only [qa_102 R_M_17] at H ⊢
        refine And.intro (fun c3 => ?_) (fun c3 => ?_)
        · replace H := H.1 c3
          replace hF := hF.trans (if_pos c3)
          replace H := z_nne (s_1625_40 S_M_17) H
          refine z_nn_of (s_1625_40 S_M_17) ?_
          refine And.intro H.1 ?_
          replace H := H.2
          intro M_25 e_M_25
          replace H := H M_25 e_M_25
          have S_M_25 : y_S n M_25 := by rw [e_M_25]; exact S_sai S_M_17
          have R_M_25 := rep_sai R_M_17 (by decide) (by decide) e_M_25
          obtain ⟨r_M_25, h_M_25⟩ := q_gen R_M_25
          replace hF := hF.trans (q_ste h_M_25.2)
          replace R_M_25 := h_M_25.1
          replace H := z_nne (s_1607_40 S_M_25) H
          refine z_nn_of (s_1607_40 S_M_25) ?_
          refine And.intro H.1 ?_
          replace H := H.2
          replace H := z_nne (s_1626_40 S_M_25) H
          refine z_nn_of (s_1626_40 S_M_25) ?_
          refine And.intro H.1 ?_
          replace H := H.2
          try simp only [qa_84 R_M_25, qa_103 R_M_25] at H ⊢
          refine qS_max S_M_25 R_M_25 H (fun x_33 M_33 r_M_33 H S_M_33 R_M_33 u => ?_)
          replace hF := hF.trans (q_ste2 u)
          replace H := z_nne (s_1607_40 S_M_25) H
          refine z_nn_of (s_1607_40 S_M_25) ?_
          refine And.intro H.1 ?_
          replace H := H.2
          intro M_36 e_M_36
          replace H := H M_36 e_M_36
          have S_M_36 : y_S n M_36 := by rw [e_M_36]; exact S_sai S_M_33
          have R_M_36 := rep_sai R_M_33 (by decide) (by decide) e_M_36
          obtain ⟨r_M_36, h_M_36⟩ := q_gen R_M_36
          replace hF := hF.trans (q_ste h_M_36.2)
          replace R_M_36 := h_M_36.1
          replace H := z_nne (s_1608_40 S_M_36) H
          refine z_nn_of (s_1608_40 S_M_36) ?_
          refine And.intro H.1 ?_
          replace H := H.2
          replace H := z_nne (s_1627_40 S_M_36) H
          refine z_nn_of (s_1627_40 S_M_36) ?_
          refine And.intro H.1 ?_
          replace H := H.2
          try simp only [qa_85 R_M_36, qa_104 R_M_36] at H ⊢
          refine qS_max S_M_36 R_M_36 H (fun x_44 M_44 r_M_44 H S_M_44 R_M_44 u => ?_)
          replace hF := hF.trans (q_ste2 u)
          replace H := z_nne (s_1608_40 S_M_36) H
          refine z_nn_of (s_1608_40 S_M_36) ?_
          refine And.intro H.1 ?_
          replace H := H.2
          intro M_47 e_M_47
          replace H := H M_47 e_M_47
          have S_M_47 : y_S n M_47 := by rw [e_M_47]; exact S_sai S_M_44
          have R_M_47 := rep_sai R_M_44 (by decide) (by decide) e_M_47
          obtain ⟨r_M_47, h_M_47⟩ := q_gen R_M_47
          replace hF := hF.trans (q_ste h_M_47.2)
          replace R_M_47 := h_M_47.1
          exact K _ _ H S_M_47 R_M_47 (qUr_hearsOf_50 hF)
        · replace H := H.2 c3
          replace hF := hF.trans (if_neg c3)
          exact K _ _ H S_M_17 R_M_17 (qUr_hearsOf_50 hF)
    · replace H := H.2 c1
      replace hF := hF.trans (if_neg c1)
      replace H := z_nne (s_1595_40 S) H
      refine z_nn_of (s_1595_40 S) ?_
      refine And.intro H.1 ?_
      replace H := H.2
      replace H := z_nne (s_1596_40 S) H
      refine z_nn_of (s_1596_40 S) ?_
      refine And.intro H.1 ?_
      replace H := H.2
      replace H := z_nne (s_1591_40 S) H
      refine z_nn_of (s_1591_40 S) ?_
      refine And.intro H.1 ?_
      replace H := H.2
      try simp only [qa_73 R, qa_74 R] at H ⊢
      intro M_59 e_M_59
      replace H := H M_59 e_M_59
      have S_M_59 : y_S n M_59 := by rw [e_M_59]; exact S_sai S
      have R_M_59 := rep_sai R (by decide) (by decide) e_M_59
      obtain ⟨r_M_59, h_M_59⟩ := q_gen R_M_59
      replace hF := hF.trans (q_ste h_M_59.2)
      replace R_M_59 := h_M_59.1
      intro x_60 e_x_60
      replace H := H x_60 e_x_60
      replace hF := hF.trans (q_ste e_x_60)
      replace hF := qUl_hearsOf_50 hF
      exact ih S_M_59 R_M_59 H (fun M1 r1 q1 q2 q3 u => K M1 r1 q1 q2 q3 (hF.trans u))
set_option maxRecDepth 100000 in
noncomputable def qF_hearsOf_27 (x1 : Int32) (x2 : Int32) (r : q_R) : q_R := (q_st2 (qF_max (r.2 94 (x2 : Int32).toNatClampNeg) (r.2 82 (x1 : Int32).toNatClampNeg) r) (fun (x_68 : Int32) r1 => (q_st (ua r1 94 (x2 : Int32).toNatClampNeg x_68) (fun r2 => (qF_hearsOf_50 x1 x2 0 r2)))))
set_option maxRecDepth 100000 in
theorem qE_hearsOf_27 (x1 : Int32) (x2 : Int32) (r : q_R) : qF_hearsOf_27 x1 x2 r = (q_st2 (qF_max (r.2 94 (x2 : Int32).toNatClampNeg) (r.2 82 (x1 : Int32).toNatClampNeg) r) (fun (x_68 : Int32) r1 => (q_st (ua r1 94 (x2 : Int32).toNatClampNeg x_68) (fun r2 => (qF_hearsOf_50 x1 x2 0 r2))))) := rfl
set_option maxRecDepth 100000 in
set_option maxHeartbeats 4000000 in
theorem qS_hearsOf_27 {n : Nat} {Q Post : z_Mem → Prop} {x1 : Int32} {x2 : Int32} {M : z_Mem} {r : q_R} (S : y_S n M) (R : q_rep n M r) (H : P_X12_hearsOf_27 (n + 40) Q x1 x2 M) (K : ∀ M1 r1, Q M1 → y_S n M1 → q_rep n M1 r1 → qF_hearsOf_27 x1 x2 r = r1 → Post M1) : P_X12_hearsOf_27 (n + 40) Post x1 x2 M := by
  have hF := qE_hearsOf_27 x1 x2 r
  unfold P_X12_hearsOf_27 at H ⊢
  replace H := z_nne (s_1617_40 S) H
  refine z_nn_of (s_1617_40 S) ?_
  refine And.intro H.1 ?_
  replace H := H.2
  replace H := z_nne (s_1604_40 S) H
  refine z_nn_of (s_1604_40 S) ?_
  refine And.intro H.1 ?_
  replace H := H.2
  try simp only [qa_94 R, qa_82 R] at H ⊢
  refine qS_max S R H (fun x_68 M_68 r_M_68 H S_M_68 R_M_68 u => ?_)
  replace hF := hF.trans (q_ste2 u)
  replace H := z_nne (s_1617_40 S) H
  refine z_nn_of (s_1617_40 S) ?_
  refine And.intro H.1 ?_
  replace H := H.2
  intro M_71 e_M_71
  replace H := H M_71 e_M_71
  have S_M_71 : y_S n M_71 := by rw [e_M_71]; exact S_sai S_M_68
  have R_M_71 := rep_sai R_M_68 (by decide) (by decide) e_M_71
  obtain ⟨r_M_71, h_M_71⟩ := q_gen R_M_71
  replace hF := hF.trans (q_ste h_M_71.2)
  replace R_M_71 := h_M_71.1
  obtain ⟨m, H⟩ := H
  refine ⟨m, ?_⟩
  exact qS_hearsOf_50 m S_M_71 R_M_71 H (fun M1 r1 q1 q2 q3 u => K M1 r1 q1 q2 q3 (hF.trans u))
set_option maxRecDepth 100000 in
noncomputable def qF_hearsOf (p1 : Int32) (r : q_R) : q_R := (q_st (r.2 71 (p1 : Int32).toNatClampNeg) (fun (x_76 : Int32) => (if ((r.2 76 (p1 : Int32).toNatClampNeg) = 0) then (qF_hearsOf_27 p1 x_76 r) else (if ((r.2 76 (p1 : Int32).toNatClampNeg) = 2) then (qF_hearsOf_27 p1 x_76 r) else r))))
set_option maxRecDepth 100000 in
theorem qE_hearsOf (p1 : Int32) (r : q_R) : qF_hearsOf p1 r = (q_st (r.2 71 (p1 : Int32).toNatClampNeg) (fun (x_76 : Int32) => (if ((r.2 76 (p1 : Int32).toNatClampNeg) = 0) then (qF_hearsOf_27 p1 x_76 r) else (if ((r.2 76 (p1 : Int32).toNatClampNeg) = 2) then (qF_hearsOf_27 p1 x_76 r) else r)))) := rfl
set_option maxRecDepth 100000 in
set_option maxHeartbeats 4000000 in
theorem qS_hearsOf {n : Nat} {Q Post : z_Mem → Prop} {p1 : Int32} {M : z_Mem} {r : q_R} (S : y_S n M) (R : q_rep n M r) (H : P_X12_hearsOf (n + 40) p1 M Q) (K : ∀ M1 r1, Q M1 → y_S n M1 → q_rep n M1 r1 → qF_hearsOf p1 r = r1 → Post M1) : P_X12_hearsOf (n + 40) p1 M Post := by
  have hF := qE_hearsOf p1 r
  unfold P_X12_hearsOf at H ⊢
  replace H := z_nne (s_1593_40 S) H
  refine z_nn_of (s_1593_40 S) ?_
  refine And.intro H.1 ?_
  replace H := H.2
  try simp only [qa_71 R] at H ⊢
  intro x_76 e_x_76
  replace H := H x_76 e_x_76
  replace hF := hF.trans (q_ste e_x_76)
  replace H := z_nne (s_1598_40 S) H
  refine z_nn_of (s_1598_40 S) ?_
  refine And.intro H.1 ?_
  replace H := H.2
  try simp only [qa_76 R] at H ⊢
  refine And.intro (fun c1 => ?_) (fun c1 => ?_)
  · replace H := H.1 c1
    replace hF := hF.trans (if_pos c1)
    exact qS_hearsOf_27 S R H (fun M1 r1 q1 q2 q3 u => K M1 r1 q1 q2 q3 (hF.trans u))
  · replace H := H.2 c1
    replace hF := hF.trans (if_neg c1)
    replace H := z_nne (s_1598_40 S) H
    refine z_nn_of (s_1598_40 S) ?_
    refine And.intro H.1 ?_
    replace H := H.2
    try simp only [qa_76 R] at H ⊢
    refine And.intro (fun c2 => ?_) (fun c2 => ?_)
    · replace H := H.1 c2
      replace hF := hF.trans (if_pos c2)
      exact qS_hearsOf_27 S R H (fun M1 r1 q1 q2 q3 u => K M1 r1 q1 q2 q3 (hF.trans u))
    · replace H := H.2 c2
      replace hF := hF.trans (if_neg c2)
      exact K _ _ H S R hF
set_option maxRecDepth 100000 in
noncomputable def qB_hearsAck_78 (x2 : Int32) (x3 : Int32) (x4 : Int32) (x5 : Int32) (x6 : Int32) (r : q_R) : (Int32 × Int32 × Int32 × Int32 × Int32 × q_R) ⊕ ((Int32 × Int32 × Int32 × Int32 × q_R) ⊕ q_R) := (if ((r.2 61 (((x2 + 2) + (2 * x5)) : Int32).toNatClampNeg) < x6) then (q_st (x5 + (-1)) (fun (x_5 : Int32) => (.inr (.inl (x2, x3, x4, x_5, r))))) else (q_st (qF_hearsOf x6 r) (fun r1 => (q_st (x6 + 1) (fun (x_7 : Int32) => (.inl (x2, x3, x4, x5, x_7, r1)))))))
set_option maxRecDepth 100000 in
noncomputable def qF_hearsAck_78 (x2 : Int32) (x3 : Int32) (x4 : Int32) (x5 : Int32) (x6 : Int32) (r : q_R) : ((Int32 × Int32 × Int32 × Int32 × q_R) ⊕ q_R) := q_lp (X := (Int32 × Int32 × Int32 × Int32 × Int32 × q_R)) (Y := ((Int32 × Int32 × Int32 × Int32 × q_R) ⊕ q_R)) (.inr r) (fun t => qB_hearsAck_78 t.1 t.2.1 t.2.2.1 t.2.2.2.1 t.2.2.2.2.1 t.2.2.2.2.2) (x2, x3, x4, x5, x6, r)
set_option maxRecDepth 100000 in
theorem qUl_hearsAck_78 {x2 : Int32} {x3 : Int32} {x4 : Int32} {x5 : Int32} {x6 : Int32} {r : q_R} {y_x2 : Int32} {y_x3 : Int32} {y_x4 : Int32} {y_x5 : Int32} {y_x6 : Int32} {r1 : q_R} (h : qB_hearsAck_78 x2 x3 x4 x5 x6 r = .inl (y_x2, y_x3, y_x4, y_x5, y_x6, r1)) : qF_hearsAck_78 x2 x3 x4 x5 x6 r = qF_hearsAck_78 y_x2 y_x3 y_x4 y_x5 y_x6 r1 := q_lpl (step := fun t => qB_hearsAck_78 t.1 t.2.1 t.2.2.1 t.2.2.2.1 t.2.2.2.2.1 t.2.2.2.2.2) h
set_option maxRecDepth 100000 in
theorem qUr_hearsAck_78 {x2 : Int32} {x3 : Int32} {x4 : Int32} {x5 : Int32} {x6 : Int32} {r : q_R} {y : ((Int32 × Int32 × Int32 × Int32 × q_R) ⊕ q_R)} (h : qB_hearsAck_78 x2 x3 x4 x5 x6 r = .inr y) : qF_hearsAck_78 x2 x3 x4 x5 x6 r = y := q_lpr (step := fun t => qB_hearsAck_78 t.1 t.2.1 t.2.2.1 t.2.2.2.1 t.2.2.2.2.1 t.2.2.2.2.2) h
set_option maxRecDepth 100000 in
theorem qE_hearsAck_78 (x2 : Int32) (x3 : Int32) (x4 : Int32) (x5 : Int32) (x6 : Int32) (r : q_R) : qB_hearsAck_78 x2 x3 x4 x5 x6 r = (if ((r.2 61 (((x2 + 2) + (2 * x5)) : Int32).toNatClampNeg) < x6) then (q_st (x5 + (-1)) (fun (x_5 : Int32) => (.inr (.inl (x2, x3, x4, x_5, r))))) else (q_st (qF_hearsOf x6 r) (fun r1 => (q_st (x6 + 1) (fun (x_7 : Int32) => (.inl (x2, x3, x4, x5, x_7, r1))))))) := rfl
set_option maxRecDepth 100000 in
set_option maxHeartbeats 4000000 in
theorem qS_hearsAck_78 {n : Nat} {Q Post : z_Mem → Prop} {QJ58 PJ58 : Int32 → Int32 → Int32 → Int32 → z_Mem → Prop} : ∀ (m : Nat) {x2 : Int32} {x3 : Int32} {x4 : Int32} {x5 : Int32} {x6 : Int32} {M : z_Mem} {r : q_R} (S : y_S n M) (R : q_rep n M r) (H : P_X12_hearsAck_78 (n + 40) Q QJ58 m x2 x3 x4 x5 x6 M) (K : ∀ M1 r1, Q M1 → y_S n M1 → q_rep n M1 r1 → qF_hearsAck_78 x2 x3 x4 x5 x6 r = (.inr r1) → Post M1) (KJ58 : ∀ v0 v1 v2 v3 M1 r1, QJ58 v0 v1 v2 v3 M1 → y_S n M1 → q_rep n M1 r1 → qF_hearsAck_78 x2 x3 x4 x5 x6 r = (.inl (v0, v1, v2, v3, r1)) → PJ58 v0 v1 v2 v3 M1), P_X12_hearsAck_78 (n + 40) Post PJ58 m x2 x3 x4 x5 x6 M := by
  intro m
  induction m with
  | zero => intros; rename_i H _ _; exact False.elim H
  | succ m ih =>
    intro x2 x3 x4 x5 x6 M r S R H K KJ58
    have hF := qE_hearsAck_78 x2 x3 x4 x5 x6 r
    unfold P_X12_hearsAck_78 at H ⊢
    replace H := z_nne (s_1560_40 S) H
    refine z_nn_of (s_1560_40 S) ?_
    refine And.intro H.1 ?_
    replace H := H.2
    try simp only [qa_61 R] at H ⊢
    refine And.intro (fun c1 => ?_) (fun c1 => ?_)
    · replace H := H.1 c1
      replace hF := hF.trans (if_pos c1)
      intro x_5 e_x_5
      replace H := H x_5 e_x_5
      replace hF := hF.trans (q_ste e_x_5)
      exact KJ58 _ _ _ _ _ _ H S R (qUr_hearsAck_78 hF)
    · replace H := H.2 c1
      replace hF := hF.trans (if_neg c1)
      refine qS_hearsOf S R H (fun M_6 r_M_6 H S_M_6 R_M_6 u => ?_)
      replace hF := hF.trans (q_ste u.symm)
      intro x_7 e_x_7
      replace H := H x_7 e_x_7
      replace hF := hF.trans (q_ste e_x_7)
      replace hF := qUl_hearsAck_78 hF
      exact ih S_M_6 R_M_6 H (fun M1 r1 q1 q2 q3 u => K M1 r1 q1 q2 q3 (hF.trans u)) (fun v0 v1 v2 v3 M1 r1 q1 q2 q3 u => KJ58 v0 v1 v2 v3 M1 r1 q1 q2 q3 (hF.trans u))
