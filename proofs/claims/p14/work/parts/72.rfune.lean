/-! ===== THE REFERENCE as functions on its cells, 5 ===== -/
set_option maxRecDepth 100000 in
noncomputable def qF_canTake (p1 : Int32) (r : q_R) : (Int32 × q_R) := (q_st2 (qF_max 1 ((r.2 87 (p1 : Int32).toNatClampNeg) / 8) r) (fun (x_13 : Int32) r1 => (q_st2 (qF_max 2 ((((((r1.2 84 (p1 : Int32).toNatClampNeg) / 16) * 2) + x_13) - 1) / x_13) r1) (fun (x_18 : Int32) r2 => (if ((r2.1 1583) = 2) then (qF_canTake_52 p1 x_18 r2) else (if ((r2.1 1583) = p1) then (qF_canTake_52 p1 x_18 r2) else (0, r2)))))))
set_option maxRecDepth 100000 in
theorem qE_canTake (p1 : Int32) (r : q_R) : qF_canTake p1 r = (q_st2 (qF_max 1 ((r.2 87 (p1 : Int32).toNatClampNeg) / 8) r) (fun (x_13 : Int32) r1 => (q_st2 (qF_max 2 ((((((r1.2 84 (p1 : Int32).toNatClampNeg) / 16) * 2) + x_13) - 1) / x_13) r1) (fun (x_18 : Int32) r2 => (if ((r2.1 1583) = 2) then (qF_canTake_52 p1 x_18 r2) else (if ((r2.1 1583) = p1) then (qF_canTake_52 p1 x_18 r2) else (0, r2))))))) := rfl
set_option maxRecDepth 100000 in
set_option maxHeartbeats 4000000 in
theorem qS_canTake {n : Nat} {Q Post : Int32 → z_Mem → Prop} {p1 : Int32} {M : z_Mem} {r : q_R} (S : y_S n M) (R : q_rep n M r) (H : P_X12_canTake (n + 40) p1 M Q) (K : ∀ x M1 r1, Q x M1 → y_S n M1 → q_rep n M1 r1 → qF_canTake p1 r = (x, r1) → Post x M1) : P_X12_canTake (n + 40) p1 M Post := by
  have hF := qE_canTake p1 r
  unfold P_X12_canTake at H ⊢
  replace H := z_nne (s_1610_40 S) H
  refine z_nn_of (s_1610_40 S) ?_
  refine And.intro H.1 ?_
  replace H := H.2
  try simp only [qa_87 R] at H ⊢
  refine qS_max S R H (fun x_13 M_13 r_M_13 H S_M_13 R_M_13 u => ?_)
  replace hF := hF.trans (q_ste2 u)
  replace H := z_nne (s_1607_40 S_M_13) H
  refine z_nn_of (s_1607_40 S_M_13) ?_
  refine And.intro H.1 ?_
  replace H := H.2
  refine And.intro H.1 ?_
  replace H := H.2
  try simp only [qa_84 R_M_13] at H ⊢
  refine qS_max S_M_13 R_M_13 H (fun x_18 M_18 r_M_18 H S_M_18 R_M_18 u => ?_)
  replace hF := hF.trans (q_ste2 u)
  try simp only [qf_1583 R_M_18] at H ⊢
  refine And.intro (fun c1 => ?_) (fun c1 => ?_)
  · replace H := H.1 c1
    replace hF := hF.trans (if_pos c1)
    exact qS_canTake_52 S_M_18 R_M_18 H (fun x M1 r1 q1 q2 q3 u => K x M1 r1 q1 q2 q3 (hF.trans u))
  · replace H := H.2 c1
    replace hF := hF.trans (if_neg c1)
    try simp only [qf_1583 R_M_18] at H ⊢
    refine And.intro (fun c2 => ?_) (fun c2 => ?_)
    · replace H := H.1 c2
      replace hF := hF.trans (if_pos c2)
      exact qS_canTake_52 S_M_18 R_M_18 H (fun x M1 r1 q1 q2 q3 u => K x M1 r1 q1 q2 q3 (hF.trans u))
    · replace H := H.2 c2
      replace hF := hF.trans (if_neg c2)
      exact K _ _ _ H S_M_18 R_M_18 hF
set_option maxRecDepth 100000 in
noncomputable def qF_nextPath (r : q_R) : (Int32 × q_R) := (q_st2 (qF_canTake 0 r) (fun (x_1 : Int32) r1 => (q_st2 (qF_canTake 1 r1) (fun (x_2 : Int32) r2 => (if (x_1 = 0) then (if (x_1 = 0) then (if (x_2 = 0) then ((-1), r2) else (1, r2)) else (0, r2)) else (if (x_2 = 0) then (if (x_1 = 0) then (if (x_2 = 0) then ((-1), r2) else (1, r2)) else (0, r2)) else (q_st2 (qF_inFlight 1 r2) (fun (x_9 : Int32) r3 => (q_st2 (qF_inFlight 0 r3) (fun (x_10 : Int32) r4 => (if (x_10 ≤ x_9) then (0, r4) else (1, r4))))))))))))
set_option maxRecDepth 100000 in
theorem qE_nextPath (r : q_R) : qF_nextPath r = (q_st2 (qF_canTake 0 r) (fun (x_1 : Int32) r1 => (q_st2 (qF_canTake 1 r1) (fun (x_2 : Int32) r2 => (if (x_1 = 0) then (if (x_1 = 0) then (if (x_2 = 0) then ((-1), r2) else (1, r2)) else (0, r2)) else (if (x_2 = 0) then (if (x_1 = 0) then (if (x_2 = 0) then ((-1), r2) else (1, r2)) else (0, r2)) else (q_st2 (qF_inFlight 1 r2) (fun (x_9 : Int32) r3 => (q_st2 (qF_inFlight 0 r3) (fun (x_10 : Int32) r4 => (if (x_10 ≤ x_9) then (0, r4) else (1, r4)))))))))))) := rfl
set_option maxRecDepth 100000 in
set_option maxHeartbeats 4000000 in
theorem qS_nextPath {n : Nat} {Q Post : Int32 → z_Mem → Prop} {M : z_Mem} {r : q_R} (S : y_S n M) (R : q_rep n M r) (H : P_X12_nextPath (n + 40) M Q) (K : ∀ x M1 r1, Q x M1 → y_S n M1 → q_rep n M1 r1 → qF_nextPath r = (x, r1) → Post x M1) : P_X12_nextPath (n + 40) M Post := by
  have hF := qE_nextPath r
  unfold P_X12_nextPath at H ⊢
  refine qS_canTake S R H (fun x_1 M_1 r_M_1 H S_M_1 R_M_1 u => ?_)
  replace hF := hF.trans (q_ste2 u)
  refine qS_canTake S_M_1 R_M_1 H (fun x_2 M_2 r_M_2 H S_M_2 R_M_2 u => ?_)
  replace hF := hF.trans (q_ste2 u)
  refine And.intro (fun c1 => ?_) (fun c1 => ?_)
  · replace H := H.1 c1
    replace hF := hF.trans (if_pos c1)
    refine And.intro (fun c2 => ?_) (fun c2 => ?_)
    · replace H := H.1 c2
      replace hF := hF.trans (if_pos c2)
      refine And.intro (fun c3 => ?_) (fun c3 => ?_)
      · replace H := H.1 c3
        replace hF := hF.trans (if_pos c3)
        exact K _ _ _ H S_M_2 R_M_2 hF
      · replace H := H.2 c3
        replace hF := hF.trans (if_neg c3)
        exact K _ _ _ H S_M_2 R_M_2 hF
    · replace H := H.2 c2
      replace hF := hF.trans (if_neg c2)
      exact K _ _ _ H S_M_2 R_M_2 hF
  · replace H := H.2 c1
    replace hF := hF.trans (if_neg c1)
    refine And.intro (fun c4 => ?_) (fun c4 => ?_)
    · replace H := H.1 c4
      replace hF := hF.trans (if_pos c4)
      refine And.intro (fun c5 => ?_) (fun c5 => ?_)
      · replace H := H.1 c5
        replace hF := hF.trans (if_pos c5)
        refine And.intro (fun c6 => ?_) (fun c6 => ?_)
        · replace H := H.1 c6
          replace hF := hF.trans (if_pos c6)
          exact K _ _ _ H S_M_2 R_M_2 hF
        · replace H := H.2 c6
          replace hF := hF.trans (if_neg c6)
          exact K _ _ _ H S_M_2 R_M_2 hF
      · replace H := H.2 c5
        replace hF := hF.trans (if_neg c5)
        exact K _ _ _ H S_M_2 R_M_2 hF
    · replace H := H.2 c4
      replace hF := hF.trans (if_neg c4)
      refine qS_inFlight S_M_2 R_M_2 H (fun x_9 M_9 r_M_9 H S_M_9 R_M_9 u => ?_)
      replace hF := hF.trans (q_ste2 u)
      refine qS_inFlight S_M_9 R_M_9 H (fun x_10 M_10 r_M_10 H S_M_10 R_M_10 u => ?_)
      replace hF := hF.trans (q_ste2 u)
      refine And.intro (fun c7 => ?_) (fun c7 => ?_)
      · replace H := H.1 c7
        replace hF := hF.trans (if_pos c7)
        exact K _ _ _ H S_M_10 R_M_10 hF
      · replace H := H.2 c7
        replace hF := hF.trans (if_neg c7)
        exact K _ _ _ H S_M_10 R_M_10 hF
set_option maxRecDepth 100000 in
noncomputable def qB_sendsNext_21 (x1 : Int32) (x2 : Int32) (x3 : Int32) (x4 : Int32) (r : q_R) : (Int32 × Int32 × Int32 × Int32 × q_R) ⊕ (Int32 × q_R) := (if (10 ≤ x4) then (q_st (qF_sends x1 x2 x3 x4 0 r) (fun r1 => (.inr (1, r1)))) else (if (200 ≤ (x3 + x4)) then (q_st (qF_sends x1 x2 x3 x4 0 r) (fun r2 => (.inr (1, r2)))) else (q_st2 (qF_isLost x2 (x3 + x4) r) (fun (x_5 : Int32) r3 => (if (x_5 = 0) then (q_st (qF_sends x1 x2 x3 x4 0 r3) (fun r4 => (.inr (1, r4)))) else (q_st (x4 + 1) (fun (x_8 : Int32) => (.inl (x1, x2, x3, x_8, r3)))))))))
set_option maxRecDepth 100000 in
noncomputable def qF_sendsNext_21 (x1 : Int32) (x2 : Int32) (x3 : Int32) (x4 : Int32) (r : q_R) : (Int32 × q_R) := q_lp (X := (Int32 × Int32 × Int32 × Int32 × q_R)) (Y := (Int32 × q_R)) ((0 : Int32), r) (fun t => qB_sendsNext_21 t.1 t.2.1 t.2.2.1 t.2.2.2.1 t.2.2.2.2) (x1, x2, x3, x4, r)
set_option maxRecDepth 100000 in
theorem qUl_sendsNext_21 {x1 : Int32} {x2 : Int32} {x3 : Int32} {x4 : Int32} {r : q_R} {y_x1 : Int32} {y_x2 : Int32} {y_x3 : Int32} {y_x4 : Int32} {r1 : q_R} (h : qB_sendsNext_21 x1 x2 x3 x4 r = .inl (y_x1, y_x2, y_x3, y_x4, r1)) : qF_sendsNext_21 x1 x2 x3 x4 r = qF_sendsNext_21 y_x1 y_x2 y_x3 y_x4 r1 := q_lpl (step := fun t => qB_sendsNext_21 t.1 t.2.1 t.2.2.1 t.2.2.2.1 t.2.2.2.2) h
set_option maxRecDepth 100000 in
theorem qUr_sendsNext_21 {x1 : Int32} {x2 : Int32} {x3 : Int32} {x4 : Int32} {r : q_R} {y : (Int32 × q_R)} (h : qB_sendsNext_21 x1 x2 x3 x4 r = .inr y) : qF_sendsNext_21 x1 x2 x3 x4 r = y := q_lpr (step := fun t => qB_sendsNext_21 t.1 t.2.1 t.2.2.1 t.2.2.2.1 t.2.2.2.2) h
set_option maxRecDepth 100000 in
theorem qE_sendsNext_21 (x1 : Int32) (x2 : Int32) (x3 : Int32) (x4 : Int32) (r : q_R) : qB_sendsNext_21 x1 x2 x3 x4 r = (if (10 ≤ x4) then (q_st (qF_sends x1 x2 x3 x4 0 r) (fun r1 => (.inr (1, r1)))) else (if (200 ≤ (x3 + x4)) then (q_st (qF_sends x1 x2 x3 x4 0 r) (fun r2 => (.inr (1, r2)))) else (q_st2 (qF_isLost x2 (x3 + x4) r) (fun (x_5 : Int32) r3 => (if (x_5 = 0) then (q_st (qF_sends x1 x2 x3 x4 0 r3) (fun r4 => (.inr (1, r4)))) else (q_st (x4 + 1) (fun (x_8 : Int32) => (.inl (x1, x2, x3, x_8, r3))))))))) := rfl
set_option maxRecDepth 100000 in
set_option maxHeartbeats 4000000 in
theorem qS_sendsNext_21 {n : Nat} {Q Post : Int32 → z_Mem → Prop} : ∀ (m : Nat) {x1 : Int32} {x2 : Int32} {x3 : Int32} {x4 : Int32} {M : z_Mem} {r : q_R} (S : y_S n M) (R : q_rep n M r) (H : P_X12_sendsNext_21 (n + 40) Q m x1 x2 x3 x4 M) (K : ∀ x M1 r1, Q x M1 → y_S n M1 → q_rep n M1 r1 → qF_sendsNext_21 x1 x2 x3 x4 r = (x, r1) → Post x M1), P_X12_sendsNext_21 (n + 40) Post m x1 x2 x3 x4 M := by
  intro m
  induction m with
  | zero => intros; rename_i H _; exact False.elim H
  | succ m ih =>
    intro x1 x2 x3 x4 M r S R H K
    have hF := qE_sendsNext_21 x1 x2 x3 x4 r
    unfold P_X12_sendsNext_21 at H ⊢
    refine And.intro (fun c1 => ?_) (fun c1 => ?_)
    · replace H := H.1 c1
      replace hF := hF.trans (if_pos c1)
      refine qS_sends S R H (fun M_2 r_M_2 H S_M_2 R_M_2 u => ?_)
      replace hF := hF.trans (q_ste u.symm)
      exact K _ _ _ H S_M_2 R_M_2 (qUr_sendsNext_21 hF)
    · replace H := H.2 c1
      replace hF := hF.trans (if_neg c1)
      refine And.intro (fun c2 => ?_) (fun c2 => ?_)
      · replace H := H.1 c2
        replace hF := hF.trans (if_pos c2)
        refine qS_sends S R H (fun M_4 r_M_4 H S_M_4 R_M_4 u => ?_)
        replace hF := hF.trans (q_ste u.symm)
        exact K _ _ _ H S_M_4 R_M_4 (qUr_sendsNext_21 hF)
      · replace H := H.2 c2
        replace hF := hF.trans (if_neg c2)
        refine qS_isLost S R H (fun x_5 M_5 r_M_5 H S_M_5 R_M_5 u => ?_)
        replace hF := hF.trans (q_ste2 u)
        refine And.intro (fun c3 => ?_) (fun c3 => ?_)
        · replace H := H.1 c3
          replace hF := hF.trans (if_pos c3)
          refine qS_sends S_M_5 R_M_5 H (fun M_7 r_M_7 H S_M_7 R_M_7 u => ?_)
          replace hF := hF.trans (q_ste u.symm)
          exact K _ _ _ H S_M_7 R_M_7 (qUr_sendsNext_21 hF)
        · replace H := H.2 c3
          replace hF := hF.trans (if_neg c3)
          intro x_8 e_x_8
          replace H := H x_8 e_x_8
          replace hF := hF.trans (q_ste e_x_8)
          replace hF := qUl_sendsNext_21 hF
          exact ih S_M_5 R_M_5 H (fun x M1 r1 q1 q2 q3 u => K x M1 r1 q1 q2 q3 (hF.trans u))
set_option maxRecDepth 100000 in
noncomputable def qB_sendsNext_76 (x1 : Int32) (x2 : Int32) (r : q_R) : (Int32 × Int32 × q_R) ⊕ (Int32 × q_R) := (if (4 < x2) then (.inr (0, r)) else (q_st (((r.1 1590) + x2) - ((((r.1 1590) + x2) / 4) * 4)) (fun (x_11 : Int32) => (q_st2 (qF_newOf x_11 r) (fun (x_12 : Int32) r1 => (if (x_12 ≤ 0) then (q_st (x2 + 1) (fun (x_14 : Int32) => (.inl (x1, x_14, r1)))) else (q_st (ua r1 67 (x_11 : Int32).toNatClampNeg ((r1.2 67 (x_11 : Int32).toNatClampNeg) + x_12)) (fun r2 => (q_st (uf r2 1590 x_11) (fun r3 => (q_st (qF_sends x1 x_11 ((r3.2 67 (x_11 : Int32).toNatClampNeg) - x_12) x_12 0 r3) (fun r4 => (.inr (1, r4))))))))))))))
set_option maxRecDepth 100000 in
noncomputable def qF_sendsNext_76 (x1 : Int32) (x2 : Int32) (r : q_R) : (Int32 × q_R) := q_lp (X := (Int32 × Int32 × q_R)) (Y := (Int32 × q_R)) ((0 : Int32), r) (fun t => qB_sendsNext_76 t.1 t.2.1 t.2.2) (x1, x2, r)
set_option maxRecDepth 100000 in
theorem qUl_sendsNext_76 {x1 : Int32} {x2 : Int32} {r : q_R} {y_x1 : Int32} {y_x2 : Int32} {r1 : q_R} (h : qB_sendsNext_76 x1 x2 r = .inl (y_x1, y_x2, r1)) : qF_sendsNext_76 x1 x2 r = qF_sendsNext_76 y_x1 y_x2 r1 := q_lpl (step := fun t => qB_sendsNext_76 t.1 t.2.1 t.2.2) h
set_option maxRecDepth 100000 in
theorem qUr_sendsNext_76 {x1 : Int32} {x2 : Int32} {r : q_R} {y : (Int32 × q_R)} (h : qB_sendsNext_76 x1 x2 r = .inr y) : qF_sendsNext_76 x1 x2 r = y := q_lpr (step := fun t => qB_sendsNext_76 t.1 t.2.1 t.2.2) h
set_option maxRecDepth 100000 in
theorem qE_sendsNext_76 (x1 : Int32) (x2 : Int32) (r : q_R) : qB_sendsNext_76 x1 x2 r = (if (4 < x2) then (.inr (0, r)) else (q_st (((r.1 1590) + x2) - ((((r.1 1590) + x2) / 4) * 4)) (fun (x_11 : Int32) => (q_st2 (qF_newOf x_11 r) (fun (x_12 : Int32) r1 => (if (x_12 ≤ 0) then (q_st (x2 + 1) (fun (x_14 : Int32) => (.inl (x1, x_14, r1)))) else (q_st (ua r1 67 (x_11 : Int32).toNatClampNeg ((r1.2 67 (x_11 : Int32).toNatClampNeg) + x_12)) (fun r2 => (q_st (uf r2 1590 x_11) (fun r3 => (q_st (qF_sends x1 x_11 ((r3.2 67 (x_11 : Int32).toNatClampNeg) - x_12) x_12 0 r3) (fun r4 => (.inr (1, r4)))))))))))))) := rfl
set_option maxRecDepth 100000 in
set_option maxHeartbeats 4000000 in
theorem qS_sendsNext_76 {n : Nat} {Q Post : Int32 → z_Mem → Prop} : ∀ (m : Nat) {x1 : Int32} {x2 : Int32} {M : z_Mem} {r : q_R} (S : y_S n M) (R : q_rep n M r) (H : P_X12_sendsNext_76 (n + 40) Q m x1 x2 M) (K : ∀ x M1 r1, Q x M1 → y_S n M1 → q_rep n M1 r1 → qF_sendsNext_76 x1 x2 r = (x, r1) → Post x M1), P_X12_sendsNext_76 (n + 40) Post m x1 x2 M := by
  intro m
  induction m with
  | zero => intros; rename_i H _; exact False.elim H
  | succ m ih =>
    intro x1 x2 M r S R H K
    have hF := qE_sendsNext_76 x1 x2 r
    unfold P_X12_sendsNext_76 at H ⊢
    refine And.intro (fun c1 => ?_) (fun c1 => ?_)
    · replace H := H.1 c1
      replace hF := hF.trans (if_pos c1)
      exact K _ _ _ H S R (qUr_sendsNext_76 hF)
    · replace H := H.2 c1
      replace hF := hF.trans (if_neg c1)
      try simp only [qf_1590 R] at H ⊢
      intro x_11 e_x_11
      replace H := H x_11 e_x_11
      replace hF := hF.trans (q_ste e_x_11)
      refine qS_newOf S R H (fun x_12 M_12 r_M_12 H S_M_12 R_M_12 u => ?_)
      replace hF := hF.trans (q_ste2 u)
      refine And.intro (fun c2 => ?_) (fun c2 => ?_)
      · replace H := H.1 c2
        replace hF := hF.trans (if_pos c2)
        intro x_14 e_x_14
        replace H := H x_14 e_x_14
        replace hF := hF.trans (q_ste e_x_14)
        replace hF := qUl_sendsNext_76 hF
        exact ih S_M_12 R_M_12 H (fun x M1 r1 q1 q2 q3 u => K x M1 r1 q1 q2 q3 (hF.trans u))
      · replace H := H.2 c2
        replace hF := hF.trans (if_neg c2)
        replace H := z_nne (s_1587_40 S_M_12) H
        refine z_nn_of (s_1587_40 S_M_12) ?_
        refine And.intro H.1 ?_
        replace H := H.2
        refine And.intro H.1 ?_
        replace H := H.2
        try simp only [qa_67 R_M_12] at H ⊢
        intro M_19 e_M_19
        replace H := H M_19 e_M_19
        have S_M_19 : y_S n M_19 := by rw [e_M_19]; exact S_sai S_M_12
        have R_M_19 := rep_sai R_M_12 (by decide) (by decide) e_M_19
        obtain ⟨r_M_19, h_M_19⟩ := q_gen R_M_19
        replace hF := hF.trans (q_ste h_M_19.2)
        replace R_M_19 := h_M_19.1
        intro M_20 e_M_20
        replace H := H M_20 e_M_20
        have S_M_20 : y_S n M_20 := by rw [e_M_20]; exact S_sfi S_M_19
        have R_M_20 := rep_sfi R_M_19 e_M_20
        obtain ⟨r_M_20, h_M_20⟩ := q_gen R_M_20
        replace hF := hF.trans (q_ste h_M_20.2)
        replace R_M_20 := h_M_20.1
        replace H := z_nne (s_1587_40 S_M_20) H
        refine z_nn_of (s_1587_40 S_M_20) ?_
        refine And.intro H.1 ?_
        replace H := H.2
        try simp only [qa_67 R_M_20] at H ⊢
        refine qS_sends S_M_20 R_M_20 H (fun M_24 r_M_24 H S_M_24 R_M_24 u => ?_)
        replace hF := hF.trans (q_ste u.symm)
        exact K _ _ _ H S_M_24 R_M_24 (qUr_sendsNext_76 hF)
set_option maxRecDepth 100000 in
noncomputable def qB_sendsNext_2 (x1 : Int32) (x2 : Int32) (r : q_R) : (Int32 × Int32 × q_R) ⊕ (Int32 × q_R) := (if (4 ≤ x2) then (.inr (qF_sendsNext_76 x1 1 r)) else (q_st2 (qF_firstLost x2 r) (fun (x_27 : Int32) r1 => (if (x_27 = (-1)) then (q_st (x2 + 1) (fun (x_29 : Int32) => (.inl (x1, x_29, r1)))) else (.inr (qF_sendsNext_21 x1 x2 x_27 1 r1))))))
set_option maxRecDepth 100000 in
noncomputable def qF_sendsNext_2 (x1 : Int32) (x2 : Int32) (r : q_R) : (Int32 × q_R) := q_lp (X := (Int32 × Int32 × q_R)) (Y := (Int32 × q_R)) ((0 : Int32), r) (fun t => qB_sendsNext_2 t.1 t.2.1 t.2.2) (x1, x2, r)
set_option maxRecDepth 100000 in
theorem qUl_sendsNext_2 {x1 : Int32} {x2 : Int32} {r : q_R} {y_x1 : Int32} {y_x2 : Int32} {r1 : q_R} (h : qB_sendsNext_2 x1 x2 r = .inl (y_x1, y_x2, r1)) : qF_sendsNext_2 x1 x2 r = qF_sendsNext_2 y_x1 y_x2 r1 := q_lpl (step := fun t => qB_sendsNext_2 t.1 t.2.1 t.2.2) h
set_option maxRecDepth 100000 in
theorem qUr_sendsNext_2 {x1 : Int32} {x2 : Int32} {r : q_R} {y : (Int32 × q_R)} (h : qB_sendsNext_2 x1 x2 r = .inr y) : qF_sendsNext_2 x1 x2 r = y := q_lpr (step := fun t => qB_sendsNext_2 t.1 t.2.1 t.2.2) h
set_option maxRecDepth 100000 in
theorem qE_sendsNext_2 (x1 : Int32) (x2 : Int32) (r : q_R) : qB_sendsNext_2 x1 x2 r = (if (4 ≤ x2) then (.inr (qF_sendsNext_76 x1 1 r)) else (q_st2 (qF_firstLost x2 r) (fun (x_27 : Int32) r1 => (if (x_27 = (-1)) then (q_st (x2 + 1) (fun (x_29 : Int32) => (.inl (x1, x_29, r1)))) else (.inr (qF_sendsNext_21 x1 x2 x_27 1 r1)))))) := rfl
set_option maxRecDepth 100000 in
set_option maxHeartbeats 4000000 in
theorem qS_sendsNext_2 {n : Nat} {Q Post : Int32 → z_Mem → Prop} : ∀ (m : Nat) {x1 : Int32} {x2 : Int32} {M : z_Mem} {r : q_R} (S : y_S n M) (R : q_rep n M r) (H : P_X12_sendsNext_2 (n + 40) Q m x1 x2 M) (K : ∀ x M1 r1, Q x M1 → y_S n M1 → q_rep n M1 r1 → qF_sendsNext_2 x1 x2 r = (x, r1) → Post x M1), P_X12_sendsNext_2 (n + 40) Post m x1 x2 M := by
  intro m
  induction m with
  | zero => intros; rename_i H _; exact False.elim H
  | succ m ih =>
    intro x1 x2 M r S R H K
    have hF := qE_sendsNext_2 x1 x2 r
    unfold P_X12_sendsNext_2 at H ⊢
    refine And.intro (fun c1 => ?_) (fun c1 => ?_)
    · replace H := H.1 c1
      replace hF := hF.trans (if_pos c1)
      obtain ⟨m, H⟩ := H
      refine ⟨m, ?_⟩
      exact qS_sendsNext_76 m S R H (fun x M1 r1 q1 q2 q3 u => K x M1 r1 q1 q2 q3 (qUr_sendsNext_2 (hF.trans (congrArg Sum.inr u))))
    · replace H := H.2 c1
      replace hF := hF.trans (if_neg c1)
      refine qS_firstLost S R H (fun x_27 M_27 r_M_27 H S_M_27 R_M_27 u => ?_)
      replace hF := hF.trans (q_ste2 u)
      refine And.intro (fun c2 => ?_) (fun c2 => ?_)
      · replace H := H.1 c2
        replace hF := hF.trans (if_pos c2)
        intro x_29 e_x_29
        replace H := H x_29 e_x_29
        replace hF := hF.trans (q_ste e_x_29)
        replace hF := qUl_sendsNext_2 hF
        exact ih S_M_27 R_M_27 H (fun x M1 r1 q1 q2 q3 u => K x M1 r1 q1 q2 q3 (hF.trans u))
      · replace H := H.2 c2
        replace hF := hF.trans (if_neg c2)
        obtain ⟨m, H⟩ := H
        refine ⟨m, ?_⟩
        exact qS_sendsNext_21 m S_M_27 R_M_27 H (fun x M1 r1 q1 q2 q3 u => K x M1 r1 q1 q2 q3 (qUr_sendsNext_2 (hF.trans (congrArg Sum.inr u))))
set_option maxRecDepth 100000 in
noncomputable def qF_sendsNext (p1 : Int32) (r : q_R) : (Int32 × q_R) := (qF_sendsNext_2 p1 0 r)
set_option maxRecDepth 100000 in
theorem qE_sendsNext (p1 : Int32) (r : q_R) : qF_sendsNext p1 r = (qF_sendsNext_2 p1 0 r) := rfl
set_option maxRecDepth 100000 in
set_option maxHeartbeats 4000000 in
theorem qS_sendsNext {n : Nat} {Q Post : Int32 → z_Mem → Prop} {p1 : Int32} {M : z_Mem} {r : q_R} (S : y_S n M) (R : q_rep n M r) (H : P_X12_sendsNext (n + 40) p1 M Q) (K : ∀ x M1 r1, Q x M1 → y_S n M1 → q_rep n M1 r1 → qF_sendsNext p1 r = (x, r1) → Post x M1) : P_X12_sendsNext (n + 40) p1 M Post := by
  have hF := qE_sendsNext p1 r
  unfold P_X12_sendsNext at H ⊢
  obtain ⟨m, H⟩ := H
  refine ⟨m, ?_⟩
  exact qS_sendsNext_2 m S R H (fun x M1 r1 q1 q2 q3 u => K x M1 r1 q1 q2 q3 (hF.trans u))
set_option maxRecDepth 100000 in
noncomputable def qF_sendsAll_100 (x1 : Int32) (r : q_R) : ((Int32 × q_R) ⊕ q_R) := (.inl (x1, r))
set_option maxRecDepth 100000 in
theorem qE_sendsAll_100 (x1 : Int32) (r : q_R) : qF_sendsAll_100 x1 r = (.inl (x1, r)) := rfl
set_option maxRecDepth 100000 in
set_option maxHeartbeats 4000000 in
theorem qS_sendsAll_100 {n : Nat} {Q Post : z_Mem → Prop} {QJ44 PJ44 : Int32 → z_Mem → Prop} {x1 : Int32} {M : z_Mem} {r : q_R} (S : y_S n M) (R : q_rep n M r) (H : P_X12_sendsAll_100 (n + 40) Q QJ44 x1 M) (K : ∀ M1 r1, Q M1 → y_S n M1 → q_rep n M1 r1 → qF_sendsAll_100 x1 r = (.inr r1) → Post M1) (KJ44 : ∀ v0 M1 r1, QJ44 v0 M1 → y_S n M1 → q_rep n M1 r1 → qF_sendsAll_100 x1 r = (.inl (v0, r1)) → PJ44 v0 M1) : P_X12_sendsAll_100 (n + 40) Post PJ44 x1 M := by
  have hF := qE_sendsAll_100 x1 r
  unfold P_X12_sendsAll_100 at H ⊢
  exact KJ44 _ _ _ H S R hF
set_option maxRecDepth 100000 in
noncomputable def qF_sendsAll_85 (x2 : Int32) (t0 : Int32) (r : q_R) : ((Int32 × q_R) ⊕ q_R) := (if (t0 = 0) then (qF_sendsAll_100 t0 r) else (q_st (ua r 105 (x2 : Int32).toNatClampNeg ((r.2 105 (x2 : Int32).toNatClampNeg) + 1)) (fun r1 => (qF_sendsAll_100 t0 r1))))
set_option maxRecDepth 100000 in
theorem qE_sendsAll_85 (x2 : Int32) (t0 : Int32) (r : q_R) : qF_sendsAll_85 x2 t0 r = (if (t0 = 0) then (qF_sendsAll_100 t0 r) else (q_st (ua r 105 (x2 : Int32).toNatClampNeg ((r.2 105 (x2 : Int32).toNatClampNeg) + 1)) (fun r1 => (qF_sendsAll_100 t0 r1)))) := rfl
set_option maxRecDepth 100000 in
set_option maxHeartbeats 4000000 in
theorem qS_sendsAll_85 {n : Nat} {Q Post : z_Mem → Prop} {QJ44 PJ44 : Int32 → z_Mem → Prop} {x2 : Int32} {t0 : Int32} {M : z_Mem} {r : q_R} (S : y_S n M) (R : q_rep n M r) (H : P_X12_sendsAll_85 (n + 40) Q QJ44 x2 t0 M) (K : ∀ M1 r1, Q M1 → y_S n M1 → q_rep n M1 r1 → qF_sendsAll_85 x2 t0 r = (.inr r1) → Post M1) (KJ44 : ∀ v0 M1 r1, QJ44 v0 M1 → y_S n M1 → q_rep n M1 r1 → qF_sendsAll_85 x2 t0 r = (.inl (v0, r1)) → PJ44 v0 M1) : P_X12_sendsAll_85 (n + 40) Post PJ44 x2 t0 M := by
  have hF := qE_sendsAll_85 x2 t0 r
  unfold P_X12_sendsAll_85 at H ⊢
  refine And.intro (fun c1 => ?_) (fun c1 => ?_)
  · replace H := H.1 c1
    replace hF := hF.trans (if_pos c1)
    exact qS_sendsAll_100 S R H (fun M1 r1 q1 q2 q3 u => K M1 r1 q1 q2 q3 (hF.trans u)) (fun v0 M1 r1 q1 q2 q3 u => KJ44 v0 M1 r1 q1 q2 q3 (hF.trans u))
  · replace H := H.2 c1
    replace hF := hF.trans (if_neg c1)
    replace H := z_nne (s_1628_40 S) H
    refine z_nn_of (s_1628_40 S) ?_
    refine And.intro H.1 ?_
    replace H := H.2
    refine And.intro H.1 ?_
    replace H := H.2
    try simp only [qa_105 R] at H ⊢
    intro M_6 e_M_6
    replace H := H M_6 e_M_6
    have S_M_6 : y_S n M_6 := by rw [e_M_6]; exact S_sai S
    have R_M_6 := rep_sai R (by decide) (by decide) e_M_6
    obtain ⟨r_M_6, h_M_6⟩ := q_gen R_M_6
    replace hF := hF.trans (q_ste h_M_6.2)
    replace R_M_6 := h_M_6.1
    exact qS_sendsAll_100 S_M_6 R_M_6 H (fun M1 r1 q1 q2 q3 u => K M1 r1 q1 q2 q3 (hF.trans u)) (fun v0 M1 r1 q1 q2 q3 u => KJ44 v0 M1 r1 q1 q2 q3 (hF.trans u))
set_option maxRecDepth 100000 in
noncomputable def qF_sendsAll_84 (x2 : Int32) (r : q_R) : ((Int32 × q_R) ⊕ q_R) := (qF_sendsAll_85 x2 0 r)
set_option maxRecDepth 100000 in
theorem qE_sendsAll_84 (x2 : Int32) (r : q_R) : qF_sendsAll_84 x2 r = (qF_sendsAll_85 x2 0 r) := rfl
set_option maxRecDepth 100000 in
set_option maxHeartbeats 4000000 in
theorem qS_sendsAll_84 {n : Nat} {Q Post : z_Mem → Prop} {QJ44 PJ44 : Int32 → z_Mem → Prop} {x2 : Int32} {M : z_Mem} {r : q_R} (S : y_S n M) (R : q_rep n M r) (H : P_X12_sendsAll_84 (n + 40) Q QJ44 x2 M) (K : ∀ M1 r1, Q M1 → y_S n M1 → q_rep n M1 r1 → qF_sendsAll_84 x2 r = (.inr r1) → Post M1) (KJ44 : ∀ v0 M1 r1, QJ44 v0 M1 → y_S n M1 → q_rep n M1 r1 → qF_sendsAll_84 x2 r = (.inl (v0, r1)) → PJ44 v0 M1) : P_X12_sendsAll_84 (n + 40) Post PJ44 x2 M := by
  have hF := qE_sendsAll_84 x2 r
  unfold P_X12_sendsAll_84 at H ⊢
  exact qS_sendsAll_85 S R H (fun M1 r1 q1 q2 q3 u => K M1 r1 q1 q2 q3 (hF.trans u)) (fun v0 M1 r1 q1 q2 q3 u => KJ44 v0 M1 r1 q1 q2 q3 (hF.trans u))
set_option maxRecDepth 100000 in
noncomputable def qF_sendsAll_66 (t0 : Int32) (r : q_R) : ((Int32 × q_R) ⊕ q_R) := (if (t0 = (-1)) then (qF_sendsAll_84 t0 r) else (q_st2 (qF_sendsNext t0 r) (fun (x_8 : Int32) r1 => (if (x_8 = 0) then (qF_sendsAll_84 t0 r1) else (qF_sendsAll_85 t0 1 r1)))))
set_option maxRecDepth 100000 in
theorem qE_sendsAll_66 (t0 : Int32) (r : q_R) : qF_sendsAll_66 t0 r = (if (t0 = (-1)) then (qF_sendsAll_84 t0 r) else (q_st2 (qF_sendsNext t0 r) (fun (x_8 : Int32) r1 => (if (x_8 = 0) then (qF_sendsAll_84 t0 r1) else (qF_sendsAll_85 t0 1 r1))))) := rfl
set_option maxRecDepth 100000 in
set_option maxHeartbeats 4000000 in
theorem qS_sendsAll_66 {n : Nat} {Q Post : z_Mem → Prop} {QJ44 PJ44 : Int32 → z_Mem → Prop} {t0 : Int32} {M : z_Mem} {r : q_R} (S : y_S n M) (R : q_rep n M r) (H : P_X12_sendsAll_66 (n + 40) Q QJ44 t0 M) (K : ∀ M1 r1, Q M1 → y_S n M1 → q_rep n M1 r1 → qF_sendsAll_66 t0 r = (.inr r1) → Post M1) (KJ44 : ∀ v0 M1 r1, QJ44 v0 M1 → y_S n M1 → q_rep n M1 r1 → qF_sendsAll_66 t0 r = (.inl (v0, r1)) → PJ44 v0 M1) : P_X12_sendsAll_66 (n + 40) Post PJ44 t0 M := by
  have hF := qE_sendsAll_66 t0 r
  unfold P_X12_sendsAll_66 at H ⊢
  refine And.intro (fun c1 => ?_) (fun c1 => ?_)
  · replace H := H.1 c1
    replace hF := hF.trans (if_pos c1)
    exact qS_sendsAll_84 S R H (fun M1 r1 q1 q2 q3 u => K M1 r1 q1 q2 q3 (hF.trans u)) (fun v0 M1 r1 q1 q2 q3 u => KJ44 v0 M1 r1 q1 q2 q3 (hF.trans u))
  · replace H := H.2 c1
    replace hF := hF.trans (if_neg c1)
    refine qS_sendsNext S R H (fun x_8 M_8 r_M_8 H S_M_8 R_M_8 u => ?_)
    replace hF := hF.trans (q_ste2 u)
    refine And.intro (fun c2 => ?_) (fun c2 => ?_)
    · replace H := H.1 c2
      replace hF := hF.trans (if_pos c2)
      exact qS_sendsAll_84 S_M_8 R_M_8 H (fun M1 r1 q1 q2 q3 u => K M1 r1 q1 q2 q3 (hF.trans u)) (fun v0 M1 r1 q1 q2 q3 u => KJ44 v0 M1 r1 q1 q2 q3 (hF.trans u))
    · replace H := H.2 c2
      replace hF := hF.trans (if_neg c2)
      exact qS_sendsAll_85 S_M_8 R_M_8 H (fun M1 r1 q1 q2 q3 u => K M1 r1 q1 q2 q3 (hF.trans u)) (fun v0 M1 r1 q1 q2 q3 u => KJ44 v0 M1 r1 q1 q2 q3 (hF.trans u))
set_option maxRecDepth 100000 in
noncomputable def qB_sendsAll_44 (x1 : Int32) (r : q_R) : (Int32 × q_R) ⊕ q_R := (if (x1 = 0) then (.inr r) else (if (400 ≤ (r.1 1606)) then (qF_sendsAll_66 (-1) r) else (q_st2 (qF_nextPath r) (fun (x_13 : Int32) r1 => (qF_sendsAll_66 x_13 r1)))))
set_option maxRecDepth 100000 in
noncomputable def qF_sendsAll_44 (x1 : Int32) (r : q_R) : q_R := q_lp (X := (Int32 × q_R)) (Y := q_R) r (fun t => qB_sendsAll_44 t.1 t.2) (x1, r)
set_option maxRecDepth 100000 in
theorem qUl_sendsAll_44 {x1 : Int32} {r : q_R} {y_x1 : Int32} {r1 : q_R} (h : qB_sendsAll_44 x1 r = .inl (y_x1, r1)) : qF_sendsAll_44 x1 r = qF_sendsAll_44 y_x1 r1 := q_lpl (step := fun t => qB_sendsAll_44 t.1 t.2) h
set_option maxRecDepth 100000 in
theorem qUr_sendsAll_44 {x1 : Int32} {r : q_R} {y : q_R} (h : qB_sendsAll_44 x1 r = .inr y) : qF_sendsAll_44 x1 r = y := q_lpr (step := fun t => qB_sendsAll_44 t.1 t.2) h
set_option maxRecDepth 100000 in
theorem qE_sendsAll_44 (x1 : Int32) (r : q_R) : qB_sendsAll_44 x1 r = (if (x1 = 0) then (.inr r) else (if (400 ≤ (r.1 1606)) then (qF_sendsAll_66 (-1) r) else (q_st2 (qF_nextPath r) (fun (x_13 : Int32) r1 => (qF_sendsAll_66 x_13 r1))))) := rfl
set_option maxRecDepth 100000 in
set_option maxHeartbeats 4000000 in
theorem qS_sendsAll_44 {n : Nat} {Q Post : z_Mem → Prop} : ∀ (m : Nat) {x1 : Int32} {M : z_Mem} {r : q_R} (S : y_S n M) (R : q_rep n M r) (H : P_X12_sendsAll_44 (n + 40) Q m x1 M) (K : ∀ M1 r1, Q M1 → y_S n M1 → q_rep n M1 r1 → qF_sendsAll_44 x1 r = r1 → Post M1), P_X12_sendsAll_44 (n + 40) Post m x1 M := by
  intro m
  induction m with
  | zero => intros; rename_i H _; exact False.elim H
  | succ m ih =>
    intro x1 M r S R H K
    have hF := qE_sendsAll_44 x1 r
    unfold P_X12_sendsAll_44 at H ⊢
    refine And.intro (fun c1 => ?_) (fun c1 => ?_)
    · replace H := H.1 c1
      replace hF := hF.trans (if_pos c1)
      exact K _ _ H S R (qUr_sendsAll_44 hF)
    · replace H := H.2 c1
      replace hF := hF.trans (if_neg c1)
      try simp only [qf_1606 R] at H ⊢
      refine And.intro (fun c2 => ?_) (fun c2 => ?_)
      · replace H := H.1 c2
        replace hF := hF.trans (if_pos c2)
        exact qS_sendsAll_66 S R H (fun M1 r1 q1 q2 q3 u => K M1 r1 q1 q2 q3 (qUr_sendsAll_44 (hF.trans u))) (fun v0 M1 r1 q1 q2 q3 u => ih q2 q3 q1 (fun M1 r1 q1 q2 q3 u2 => K M1 r1 q1 q2 q3 ((qUl_sendsAll_44 (hF.trans u)).trans u2))) 
      · replace H := H.2 c2
        replace hF := hF.trans (if_neg c2)
        refine qS_nextPath S R H (fun x_13 M_13 r_M_13 H S_M_13 R_M_13 u => ?_)
        replace hF := hF.trans (q_ste2 u)
        exact qS_sendsAll_66 S_M_13 R_M_13 H (fun M1 r1 q1 q2 q3 u => K M1 r1 q1 q2 q3 (qUr_sendsAll_44 (hF.trans u))) (fun v0 M1 r1 q1 q2 q3 u => ih q2 q3 q1 (fun M1 r1 q1 q2 q3 u2 => K M1 r1 q1 q2 q3 ((qUl_sendsAll_44 (hF.trans u)).trans u2))) 
set_option maxRecDepth 100000 in
noncomputable def qF_sendsAll_43 (t0 : Int32) (r : q_R) : q_R := (qF_sendsAll_44 t0 r)
set_option maxRecDepth 100000 in
theorem qE_sendsAll_43 (t0 : Int32) (r : q_R) : qF_sendsAll_43 t0 r = (qF_sendsAll_44 t0 r) := rfl
set_option maxRecDepth 100000 in
set_option maxHeartbeats 4000000 in
theorem qS_sendsAll_43 {n : Nat} {Q Post : z_Mem → Prop} {t0 : Int32} {M : z_Mem} {r : q_R} (S : y_S n M) (R : q_rep n M r) (H : P_X12_sendsAll_43 (n + 40) Q t0 M) (K : ∀ M1 r1, Q M1 → y_S n M1 → q_rep n M1 r1 → qF_sendsAll_43 t0 r = r1 → Post M1) : P_X12_sendsAll_43 (n + 40) Post t0 M := by
  have hF := qE_sendsAll_43 t0 r
  unfold P_X12_sendsAll_43 at H ⊢
  obtain ⟨m, H⟩ := H
  refine ⟨m, ?_⟩
  exact qS_sendsAll_44 m S R H (fun M1 r1 q1 q2 q3 u => K M1 r1 q1 q2 q3 (hF.trans u))
set_option maxRecDepth 100000 in
noncomputable def qF_sendsAll_38 (r : q_R) : q_R := (qF_sendsAll_43 1 r)
set_option maxRecDepth 100000 in
theorem qE_sendsAll_38 (r : q_R) : qF_sendsAll_38 r = (qF_sendsAll_43 1 r) := rfl
set_option maxRecDepth 100000 in
set_option maxHeartbeats 4000000 in
theorem qS_sendsAll_38 {n : Nat} {Q Post : z_Mem → Prop} {M : z_Mem} {r : q_R} (S : y_S n M) (R : q_rep n M r) (H : P_X12_sendsAll_38 (n + 40) Q M) (K : ∀ M1 r1, Q M1 → y_S n M1 → q_rep n M1 r1 → qF_sendsAll_38 r = r1 → Post M1) : P_X12_sendsAll_38 (n + 40) Post M := by
  have hF := qE_sendsAll_38 r
  unfold P_X12_sendsAll_38 at H ⊢
  exact qS_sendsAll_43 S R H (fun M1 r1 q1 q2 q3 u => K M1 r1 q1 q2 q3 (hF.trans u))
set_option maxRecDepth 100000 in
noncomputable def qF_sendsAll_42 (r : q_R) : q_R := (qF_sendsAll_43 0 r)
set_option maxRecDepth 100000 in
theorem qE_sendsAll_42 (r : q_R) : qF_sendsAll_42 r = (qF_sendsAll_43 0 r) := rfl
set_option maxRecDepth 100000 in
set_option maxHeartbeats 4000000 in
theorem qS_sendsAll_42 {n : Nat} {Q Post : z_Mem → Prop} {M : z_Mem} {r : q_R} (S : y_S n M) (R : q_rep n M r) (H : P_X12_sendsAll_42 (n + 40) Q M) (K : ∀ M1 r1, Q M1 → y_S n M1 → q_rep n M1 r1 → qF_sendsAll_42 r = r1 → Post M1) : P_X12_sendsAll_42 (n + 40) Post M := by
  have hF := qE_sendsAll_42 r
  unfold P_X12_sendsAll_42 at H ⊢
  exact qS_sendsAll_43 S R H (fun M1 r1 q1 q2 q3 u => K M1 r1 q1 q2 q3 (hF.trans u))
set_option maxRecDepth 100000 in
noncomputable def qF_sendsAll (r : q_R) : q_R := (q_st (ua r 105 (0 : Int32).toNatClampNeg 0) (fun r1 => (q_st (ua r1 105 (1 : Int32).toNatClampNeg 0) (fun r2 => (if ((r2.1 1577) = 2) then (qF_sendsAll_38 r2) else (if ((r2.1 1577) = 1) then (if ((r2.1 1578) = (-1)) then (qF_sendsAll_42 r2) else (qF_sendsAll_38 r2)) else (qF_sendsAll_42 r2)))))))
set_option maxRecDepth 100000 in
theorem qE_sendsAll (r : q_R) : qF_sendsAll r = (q_st (ua r 105 (0 : Int32).toNatClampNeg 0) (fun r1 => (q_st (ua r1 105 (1 : Int32).toNatClampNeg 0) (fun r2 => (if ((r2.1 1577) = 2) then (qF_sendsAll_38 r2) else (if ((r2.1 1577) = 1) then (if ((r2.1 1578) = (-1)) then (qF_sendsAll_42 r2) else (qF_sendsAll_38 r2)) else (qF_sendsAll_42 r2))))))) := rfl
set_option maxRecDepth 100000 in
set_option maxHeartbeats 4000000 in
theorem qS_sendsAll {n : Nat} {Q Post : z_Mem → Prop} {M : z_Mem} {r : q_R} (S : y_S n M) (R : q_rep n M r) (H : P_X12_sendsAll (n + 40) M Q) (K : ∀ M1 r1, Q M1 → y_S n M1 → q_rep n M1 r1 → qF_sendsAll r = r1 → Post M1) : P_X12_sendsAll (n + 40) M Post := by
  have hF := qE_sendsAll r
  unfold P_X12_sendsAll at H ⊢
  replace H := z_nne (s_1628_40 S) H
  refine z_nn_of (s_1628_40 S) ?_
  refine And.intro H.1 ?_
  replace H := H.2
  intro M_18 e_M_18
  replace H := H M_18 e_M_18
  have S_M_18 : y_S n M_18 := by rw [e_M_18]; exact S_sai S
  have R_M_18 := rep_sai R (by decide) (by decide) e_M_18
  obtain ⟨r_M_18, h_M_18⟩ := q_gen R_M_18
  replace hF := hF.trans (q_ste h_M_18.2)
  replace R_M_18 := h_M_18.1
  replace H := z_nne (s_1628_40 S_M_18) H
  refine z_nn_of (s_1628_40 S_M_18) ?_
  refine And.intro H.1 ?_
  replace H := H.2
  intro M_22 e_M_22
  replace H := H M_22 e_M_22
  have S_M_22 : y_S n M_22 := by rw [e_M_22]; exact S_sai S_M_18
  have R_M_22 := rep_sai R_M_18 (by decide) (by decide) e_M_22
  obtain ⟨r_M_22, h_M_22⟩ := q_gen R_M_22
  replace hF := hF.trans (q_ste h_M_22.2)
  replace R_M_22 := h_M_22.1
  try simp only [qf_1577 R_M_22] at H ⊢
  refine And.intro (fun c1 => ?_) (fun c1 => ?_)
  · replace H := H.1 c1
    replace hF := hF.trans (if_pos c1)
    exact qS_sendsAll_38 S_M_22 R_M_22 H (fun M1 r1 q1 q2 q3 u => K M1 r1 q1 q2 q3 (hF.trans u))
  · replace H := H.2 c1
    replace hF := hF.trans (if_neg c1)
    try simp only [qf_1577 R_M_22] at H ⊢
    refine And.intro (fun c2 => ?_) (fun c2 => ?_)
    · replace H := H.1 c2
      replace hF := hF.trans (if_pos c2)
      try simp only [qf_1578 R_M_22] at H ⊢
      refine And.intro (fun c3 => ?_) (fun c3 => ?_)
      · replace H := H.1 c3
        replace hF := hF.trans (if_pos c3)
        exact qS_sendsAll_42 S_M_22 R_M_22 H (fun M1 r1 q1 q2 q3 u => K M1 r1 q1 q2 q3 (hF.trans u))
      · replace H := H.2 c3
        replace hF := hF.trans (if_neg c3)
        exact qS_sendsAll_38 S_M_22 R_M_22 H (fun M1 r1 q1 q2 q3 u => K M1 r1 q1 q2 q3 (hF.trans u))
    · replace H := H.2 c2
      replace hF := hF.trans (if_neg c2)
      exact qS_sendsAll_42 S_M_22 R_M_22 H (fun M1 r1 q1 q2 q3 u => K M1 r1 q1 q2 q3 (hF.trans u))
set_option maxRecDepth 100000 in
noncomputable def qF_probesOn_37 (x1 : Int32) (x3 : Int32) (t0 : Int32) (r : q_R) : ((Int32 × Int32 × Int32 × q_R) ⊕ q_R) := (q_st (x3 + (-1)) (fun (x_1 : Int32) => (.inl (x1, t0, x_1, r))))
set_option maxRecDepth 100000 in
theorem qE_probesOn_37 (x1 : Int32) (x3 : Int32) (t0 : Int32) (r : q_R) : qF_probesOn_37 x1 x3 t0 r = (q_st (x3 + (-1)) (fun (x_1 : Int32) => (.inl (x1, t0, x_1, r)))) := rfl
set_option maxRecDepth 100000 in
set_option maxHeartbeats 4000000 in
theorem qS_probesOn_37 {n : Nat} {Q Post : z_Mem → Prop} {QJ9 PJ9 : Int32 → Int32 → Int32 → z_Mem → Prop} {x1 : Int32} {x3 : Int32} {t0 : Int32} {M : z_Mem} {r : q_R} (S : y_S n M) (R : q_rep n M r) (H : P_X12_probesOn_37 (n + 40) Q QJ9 x1 x3 t0 M) (K : ∀ M1 r1, Q M1 → y_S n M1 → q_rep n M1 r1 → qF_probesOn_37 x1 x3 t0 r = (.inr r1) → Post M1) (KJ9 : ∀ v0 v1 v2 M1 r1, QJ9 v0 v1 v2 M1 → y_S n M1 → q_rep n M1 r1 → qF_probesOn_37 x1 x3 t0 r = (.inl (v0, v1, v2, r1)) → PJ9 v0 v1 v2 M1) : P_X12_probesOn_37 (n + 40) Post PJ9 x1 x3 t0 M := by
  have hF := qE_probesOn_37 x1 x3 t0 r
  unfold P_X12_probesOn_37 at H ⊢
  intro x_1 e_x_1
  replace H := H x_1 e_x_1
  replace hF := hF.trans (q_ste e_x_1)
  exact KJ9 _ _ _ _ _ H S R hF
set_option maxRecDepth 100000 in
noncomputable def qF_probesOn_36 (x1 : Int32) (x2 : Int32) (x3 : Int32) (r : q_R) : ((Int32 × Int32 × Int32 × q_R) ⊕ q_R) := (qF_probesOn_37 x1 x3 x2 r)
set_option maxRecDepth 100000 in
theorem qE_probesOn_36 (x1 : Int32) (x2 : Int32) (x3 : Int32) (r : q_R) : qF_probesOn_36 x1 x2 x3 r = (qF_probesOn_37 x1 x3 x2 r) := rfl
set_option maxRecDepth 100000 in
set_option maxHeartbeats 4000000 in
theorem qS_probesOn_36 {n : Nat} {Q Post : z_Mem → Prop} {QJ9 PJ9 : Int32 → Int32 → Int32 → z_Mem → Prop} {x1 : Int32} {x2 : Int32} {x3 : Int32} {M : z_Mem} {r : q_R} (S : y_S n M) (R : q_rep n M r) (H : P_X12_probesOn_36 (n + 40) Q QJ9 x1 x2 x3 M) (K : ∀ M1 r1, Q M1 → y_S n M1 → q_rep n M1 r1 → qF_probesOn_36 x1 x2 x3 r = (.inr r1) → Post M1) (KJ9 : ∀ v0 v1 v2 M1 r1, QJ9 v0 v1 v2 M1 → y_S n M1 → q_rep n M1 r1 → qF_probesOn_36 x1 x2 x3 r = (.inl (v0, v1, v2, r1)) → PJ9 v0 v1 v2 M1) : P_X12_probesOn_36 (n + 40) Post PJ9 x1 x2 x3 M := by
  have hF := qE_probesOn_36 x1 x2 x3 r
  unfold P_X12_probesOn_36 at H ⊢
  exact qS_probesOn_37 S R H (fun M1 r1 q1 q2 q3 u => K M1 r1 q1 q2 q3 (hF.trans u)) (fun v0 v1 v2 M1 r1 q1 q2 q3 u => KJ9 v0 v1 v2 M1 r1 q1 q2 q3 (hF.trans u))
set_option maxRecDepth 100000 in
noncomputable def qF_probesOn_88 (x1 : Int32) (x2 : Int32) (t0 : Int32) (t1 : Int32) (r : q_R) : q_R := (q_st (t0 <<< (t1 &&& 31)) (fun (x_2 : Int32) => (if (x2 = (-1)) then r else (if (400 ≤ (r.1 1606)) then r else (if (((r.1 1536) - (r.2 95 (x1 : Int32).toNatClampNeg)) < x_2) then r else (q_st (ua r 96 (x1 : Int32).toNatClampNeg ((r.2 96 (x1 : Int32).toNatClampNeg) + 1)) (fun r1 => (q_st (ua r1 106 (2 : Int32).toNatClampNeg ((r1.2 106 (2 : Int32).toNatClampNeg) + 1)) (fun r2 => (q_st (qF_sends x1 (r2.2 73 (x2 : Int32).toNatClampNeg) (r2.2 74 (x2 : Int32).toNatClampNeg) (r2.2 75 (x2 : Int32).toNatClampNeg) 1 r2) (fun r3 => r3)))))))))))
set_option maxRecDepth 100000 in
theorem qE_probesOn_88 (x1 : Int32) (x2 : Int32) (t0 : Int32) (t1 : Int32) (r : q_R) : qF_probesOn_88 x1 x2 t0 t1 r = (q_st (t0 <<< (t1 &&& 31)) (fun (x_2 : Int32) => (if (x2 = (-1)) then r else (if (400 ≤ (r.1 1606)) then r else (if (((r.1 1536) - (r.2 95 (x1 : Int32).toNatClampNeg)) < x_2) then r else (q_st (ua r 96 (x1 : Int32).toNatClampNeg ((r.2 96 (x1 : Int32).toNatClampNeg) + 1)) (fun r1 => (q_st (ua r1 106 (2 : Int32).toNatClampNeg ((r1.2 106 (2 : Int32).toNatClampNeg) + 1)) (fun r2 => (q_st (qF_sends x1 (r2.2 73 (x2 : Int32).toNatClampNeg) (r2.2 74 (x2 : Int32).toNatClampNeg) (r2.2 75 (x2 : Int32).toNatClampNeg) 1 r2) (fun r3 => r3))))))))))) := rfl
set_option maxRecDepth 100000 in
set_option maxHeartbeats 4000000 in
theorem qS_probesOn_88 {n : Nat} {Q Post : z_Mem → Prop} {x1 : Int32} {x2 : Int32} {t0 : Int32} {t1 : Int32} {M : z_Mem} {r : q_R} (S : y_S n M) (R : q_rep n M r) (H : P_X12_probesOn_88 (n + 40) Q x1 x2 t0 t1 M) (K : ∀ M1 r1, Q M1 → y_S n M1 → q_rep n M1 r1 → qF_probesOn_88 x1 x2 t0 t1 r = r1 → Post M1) : P_X12_probesOn_88 (n + 40) Post x1 x2 t0 t1 M := by
  have hF := qE_probesOn_88 x1 x2 t0 t1 r
  unfold P_X12_probesOn_88 at H ⊢
  intro x_2 e_x_2
  replace H := H x_2 e_x_2
  replace hF := hF.trans (q_ste e_x_2)
  refine And.intro (fun c1 => ?_) (fun c1 => ?_)
  · replace H := H.1 c1
    replace hF := hF.trans (if_pos c1)
    exact K _ _ H S R hF
  · replace H := H.2 c1
    replace hF := hF.trans (if_neg c1)
    try simp only [qf_1606 R] at H ⊢
    refine And.intro (fun c2 => ?_) (fun c2 => ?_)
    · replace H := H.1 c2
      replace hF := hF.trans (if_pos c2)
      exact K _ _ H S R hF
    · replace H := H.2 c2
      replace hF := hF.trans (if_neg c2)
      replace H := z_nne (s_1618_40 S) H
      refine z_nn_of (s_1618_40 S) ?_
      refine And.intro H.1 ?_
      replace H := H.2
      try simp only [qa_95 R, qf_1536 R] at H ⊢
      refine And.intro (fun c3 => ?_) (fun c3 => ?_)
      · replace H := H.1 c3
        replace hF := hF.trans (if_pos c3)
        exact K _ _ H S R hF
      · replace H := H.2 c3
        replace hF := hF.trans (if_neg c3)
        replace H := z_nne (s_1619_40 S) H
        refine z_nn_of (s_1619_40 S) ?_
        refine And.intro H.1 ?_
        replace H := H.2
        refine And.intro H.1 ?_
        replace H := H.2
        try simp only [qa_96 R] at H ⊢
        intro M_15 e_M_15
        replace H := H M_15 e_M_15
        have S_M_15 : y_S n M_15 := by rw [e_M_15]; exact S_sai S
        have R_M_15 := rep_sai R (by decide) (by decide) e_M_15
        obtain ⟨r_M_15, h_M_15⟩ := q_gen R_M_15
        replace hF := hF.trans (q_ste h_M_15.2)
        replace R_M_15 := h_M_15.1
        replace H := z_nne (s_1629_40 S_M_15) H
        refine z_nn_of (s_1629_40 S_M_15) ?_
        refine And.intro H.1 ?_
        replace H := H.2
        refine And.intro H.1 ?_
        replace H := H.2
        try simp only [qa_106 R_M_15] at H ⊢
        intro M_20 e_M_20
        replace H := H M_20 e_M_20
        have S_M_20 : y_S n M_20 := by rw [e_M_20]; exact S_sai S_M_15
        have R_M_20 := rep_sai R_M_15 (by decide) (by decide) e_M_20
        obtain ⟨r_M_20, h_M_20⟩ := q_gen R_M_20
        replace hF := hF.trans (q_ste h_M_20.2)
        replace R_M_20 := h_M_20.1
        replace H := z_nne (s_1595_40 S_M_20) H
        refine z_nn_of (s_1595_40 S_M_20) ?_
        refine And.intro H.1 ?_
        replace H := H.2
        replace H := z_nne (s_1596_40 S_M_20) H
        refine z_nn_of (s_1596_40 S_M_20) ?_
        refine And.intro H.1 ?_
        replace H := H.2
        replace H := z_nne (s_1597_40 S_M_20) H
        refine z_nn_of (s_1597_40 S_M_20) ?_
        refine And.intro H.1 ?_
        replace H := H.2
        try simp only [qa_73 R_M_20, qa_74 R_M_20, qa_75 R_M_20] at H ⊢
        refine qS_sends S_M_20 R_M_20 H (fun M_30 r_M_30 H S_M_30 R_M_30 u => ?_)
        replace hF := hF.trans (q_ste u.symm)
        exact K _ _ H S_M_30 R_M_30 hF
set_option maxRecDepth 100000 in
noncomputable def qB_probesOn_9 (x1 : Int32) (x2 : Int32) (x3 : Int32) (r : q_R) : (Int32 × Int32 × Int32 × q_R) ⊕ q_R := (if (x3 < 0) then (q_st2 (qF_max 1 (r.2 88 (x1 : Int32).toNatClampNeg) r) (fun (x_38 : Int32) r1 => (if ((r1.2 96 (x1 : Int32).toNatClampNeg) ≤ 6) then (.inr (qF_probesOn_88 x1 x2 ((((r.2 87 (x1 : Int32).toNatClampNeg) / 8) + x_38) + 3) (r1.2 96 (x1 : Int32).toNatClampNeg) r1)) else (.inr (qF_probesOn_88 x1 x2 ((((r.2 87 (x1 : Int32).toNatClampNeg) / 8) + x_38) + 3) 6 r1))))) else (if ((r.2 71 (x3 : Int32).toNatClampNeg) = x1) then (if ((r.2 76 (x3 : Int32).toNatClampNeg) = 0) then (qF_probesOn_37 x1 x3 x3 r) else (qF_probesOn_36 x1 x2 x3 r)) else (qF_probesOn_36 x1 x2 x3 r)))
set_option maxRecDepth 100000 in
noncomputable def qF_probesOn_9 (x1 : Int32) (x2 : Int32) (x3 : Int32) (r : q_R) : q_R := q_lp (X := (Int32 × Int32 × Int32 × q_R)) (Y := q_R) r (fun t => qB_probesOn_9 t.1 t.2.1 t.2.2.1 t.2.2.2) (x1, x2, x3, r)
set_option maxRecDepth 100000 in
theorem qUl_probesOn_9 {x1 : Int32} {x2 : Int32} {x3 : Int32} {r : q_R} {y_x1 : Int32} {y_x2 : Int32} {y_x3 : Int32} {r1 : q_R} (h : qB_probesOn_9 x1 x2 x3 r = .inl (y_x1, y_x2, y_x3, r1)) : qF_probesOn_9 x1 x2 x3 r = qF_probesOn_9 y_x1 y_x2 y_x3 r1 := q_lpl (step := fun t => qB_probesOn_9 t.1 t.2.1 t.2.2.1 t.2.2.2) h
set_option maxRecDepth 100000 in
theorem qUr_probesOn_9 {x1 : Int32} {x2 : Int32} {x3 : Int32} {r : q_R} {y : q_R} (h : qB_probesOn_9 x1 x2 x3 r = .inr y) : qF_probesOn_9 x1 x2 x3 r = y := q_lpr (step := fun t => qB_probesOn_9 t.1 t.2.1 t.2.2.1 t.2.2.2) h
set_option maxRecDepth 100000 in
theorem qE_probesOn_9 (x1 : Int32) (x2 : Int32) (x3 : Int32) (r : q_R) : qB_probesOn_9 x1 x2 x3 r = (if (x3 < 0) then (q_st2 (qF_max 1 (r.2 88 (x1 : Int32).toNatClampNeg) r) (fun (x_38 : Int32) r1 => (if ((r1.2 96 (x1 : Int32).toNatClampNeg) ≤ 6) then (.inr (qF_probesOn_88 x1 x2 ((((r.2 87 (x1 : Int32).toNatClampNeg) / 8) + x_38) + 3) (r1.2 96 (x1 : Int32).toNatClampNeg) r1)) else (.inr (qF_probesOn_88 x1 x2 ((((r.2 87 (x1 : Int32).toNatClampNeg) / 8) + x_38) + 3) 6 r1))))) else (if ((r.2 71 (x3 : Int32).toNatClampNeg) = x1) then (if ((r.2 76 (x3 : Int32).toNatClampNeg) = 0) then (qF_probesOn_37 x1 x3 x3 r) else (qF_probesOn_36 x1 x2 x3 r)) else (qF_probesOn_36 x1 x2 x3 r))) := rfl
set_option maxRecDepth 100000 in
set_option maxHeartbeats 4000000 in
theorem qS_probesOn_9 {n : Nat} {Q Post : z_Mem → Prop} : ∀ (m : Nat) {x1 : Int32} {x2 : Int32} {x3 : Int32} {M : z_Mem} {r : q_R} (S : y_S n M) (R : q_rep n M r) (H : P_X12_probesOn_9 (n + 40) Q m x1 x2 x3 M) (K : ∀ M1 r1, Q M1 → y_S n M1 → q_rep n M1 r1 → qF_probesOn_9 x1 x2 x3 r = r1 → Post M1), P_X12_probesOn_9 (n + 40) Post m x1 x2 x3 M := by
  intro m
  induction m with
  | zero => intros; rename_i H _; exact False.elim H
  | succ m ih =>
    intro x1 x2 x3 M r S R H K
    have hF := qE_probesOn_9 x1 x2 x3 r
    unfold P_X12_probesOn_9 at H ⊢
    refine And.intro (fun c1 => ?_) (fun c1 => ?_)
    · replace H := H.1 c1
      replace hF := hF.trans (if_pos c1)
      replace H := z_nne (s_1610_40 S) H
      refine z_nn_of (s_1610_40 S) ?_
      refine And.intro H.1 ?_
      replace H := H.2
      replace H := z_nne (s_1611_40 S) H
      refine z_nn_of (s_1611_40 S) ?_
      refine And.intro H.1 ?_
      replace H := H.2
      try simp only [qa_88 R] at H ⊢
      refine qS_max S R H (fun x_38 M_38 r_M_38 H S_M_38 R_M_38 u => ?_)
      replace hF := hF.trans (q_ste2 u)
      replace H := z_nne (s_1619_40 S_M_38) H
      refine z_nn_of (s_1619_40 S_M_38) ?_
      refine And.intro H.1 ?_
      replace H := H.2
      try simp only [qa_96 R_M_38] at H ⊢
      refine And.intro (fun c2 => ?_) (fun c2 => ?_)
      · replace H := H.1 c2
        replace hF := hF.trans (if_pos c2)
        replace H := z_nne (s_1619_40 S_M_38) H
        refine z_nn_of (s_1619_40 S_M_38) ?_
        refine And.intro H.1 ?_
        replace H := H.2
        try simp only [qa_87 R, qa_96 R_M_38] at H ⊢
        exact qS_probesOn_88 S_M_38 R_M_38 H (fun M1 r1 q1 q2 q3 u => K M1 r1 q1 q2 q3 (qUr_probesOn_9 (hF.trans (congrArg Sum.inr u))))
      · replace H := H.2 c2
        replace hF := hF.trans (if_neg c2)
        try simp only [qa_87 R] at H ⊢
        exact qS_probesOn_88 S_M_38 R_M_38 H (fun M1 r1 q1 q2 q3 u => K M1 r1 q1 q2 q3 (qUr_probesOn_9 (hF.trans (congrArg Sum.inr u))))
    · replace H := H.2 c1
      replace hF := hF.trans (if_neg c1)
      replace H := z_nne (s_1593_40 S) H
      refine z_nn_of (s_1593_40 S) ?_
      refine And.intro H.1 ?_
      replace H := H.2
      try simp only [qa_71 R] at H ⊢
      refine And.intro (fun c3 => ?_) (fun c3 => ?_)
      · replace H := H.1 c3
        replace hF := hF.trans (if_pos c3)
        replace H := z_nne (s_1598_40 S) H
        refine z_nn_of (s_1598_40 S) ?_
        refine And.intro H.1 ?_
        replace H := H.2
        try simp only [qa_76 R] at H ⊢
        refine And.intro (fun c4 => ?_) (fun c4 => ?_)
        · replace H := H.1 c4
          replace hF := hF.trans (if_pos c4)
          exact qS_probesOn_37 S R H (fun M1 r1 q1 q2 q3 u => K M1 r1 q1 q2 q3 (qUr_probesOn_9 (hF.trans u))) (fun v0 v1 v2 M1 r1 q1 q2 q3 u => ih q2 q3 q1 (fun M1 r1 q1 q2 q3 u2 => K M1 r1 q1 q2 q3 ((qUl_probesOn_9 (hF.trans u)).trans u2))) 
        · replace H := H.2 c4
          replace hF := hF.trans (if_neg c4)
          exact qS_probesOn_36 S R H (fun M1 r1 q1 q2 q3 u => K M1 r1 q1 q2 q3 (qUr_probesOn_9 (hF.trans u))) (fun v0 v1 v2 M1 r1 q1 q2 q3 u => ih q2 q3 q1 (fun M1 r1 q1 q2 q3 u2 => K M1 r1 q1 q2 q3 ((qUl_probesOn_9 (hF.trans u)).trans u2))) 
      · replace H := H.2 c3
        replace hF := hF.trans (if_neg c3)
        exact qS_probesOn_36 S R H (fun M1 r1 q1 q2 q3 u => K M1 r1 q1 q2 q3 (qUr_probesOn_9 (hF.trans u))) (fun v0 v1 v2 M1 r1 q1 q2 q3 u => ih q2 q3 q1 (fun M1 r1 q1 q2 q3 u2 => K M1 r1 q1 q2 q3 ((qUl_probesOn_9 (hF.trans u)).trans u2))) 
set_option maxRecDepth 100000 in
noncomputable def qF_probesOn (p1 : Int32) (r : q_R) : q_R := (q_st ((r.1 1606) - 1) (fun (x_55 : Int32) => (qF_probesOn_9 p1 (-1) x_55 r)))
set_option maxRecDepth 100000 in
theorem qE_probesOn (p1 : Int32) (r : q_R) : qF_probesOn p1 r = (q_st ((r.1 1606) - 1) (fun (x_55 : Int32) => (qF_probesOn_9 p1 (-1) x_55 r))) := rfl
set_option maxRecDepth 100000 in
set_option maxHeartbeats 4000000 in
theorem qS_probesOn {n : Nat} {Q Post : z_Mem → Prop} {p1 : Int32} {M : z_Mem} {r : q_R} (S : y_S n M) (R : q_rep n M r) (H : P_X12_probesOn (n + 40) p1 M Q) (K : ∀ M1 r1, Q M1 → y_S n M1 → q_rep n M1 r1 → qF_probesOn p1 r = r1 → Post M1) : P_X12_probesOn (n + 40) p1 M Post := by
  have hF := qE_probesOn p1 r
  unfold P_X12_probesOn at H ⊢
  try simp only [qf_1606 R] at H ⊢
  intro x_55 e_x_55
  replace H := H x_55 e_x_55
  replace hF := hF.trans (q_ste e_x_55)
  obtain ⟨m, H⟩ := H
  refine ⟨m, ?_⟩
  exact qS_probesOn_9 m S R H (fun M1 r1 q1 q2 q3 u => K M1 r1 q1 q2 q3 (hF.trans u))
set_option maxRecDepth 100000 in
noncomputable def qF_connect_20 (x1 : Int32) (t1 : Int32) (t2 : Int32) (r : q_R) : q_R := (q_st2 (qF_goes t1 t2 1 r) (fun (x_1 : Int32) r1 => (if (x_1 = 0) then r1 else (q_st (uf r1 1577 1) (fun r2 => (q_st (uf r2 1578 x1) (fun r3 => (q_st (uf r3 1581 10) (fun r4 => (q_st (qF_saysHello r4) (fun r5 => r5)))))))))))
set_option maxRecDepth 100000 in
theorem qE_connect_20 (x1 : Int32) (t1 : Int32) (t2 : Int32) (r : q_R) : qF_connect_20 x1 t1 t2 r = (q_st2 (qF_goes t1 t2 1 r) (fun (x_1 : Int32) r1 => (if (x_1 = 0) then r1 else (q_st (uf r1 1577 1) (fun r2 => (q_st (uf r2 1578 x1) (fun r3 => (q_st (uf r3 1581 10) (fun r4 => (q_st (qF_saysHello r4) (fun r5 => r5))))))))))) := rfl
set_option maxRecDepth 100000 in
set_option maxHeartbeats 4000000 in
theorem qS_connect_20 {n : Nat} {Q Post : z_Mem → Prop} {x1 : Int32} {t1 : Int32} {t2 : Int32} {o_t0 : Option Nat} {M : z_Mem} {r : q_R} (ho_t0 : o_t0 = some (n + 40)) (S : y_S n M) (R : q_rep n M r) (H : P_X12_connect_20 (n + 40) Q x1 o_t0 t1 t2 M) (K : ∀ M1 r1, Q M1 → y_S n M1 → q_rep n M1 r1 → qF_connect_20 x1 t1 t2 r = r1 → Post M1) : P_X12_connect_20 (n + 40) Post x1 o_t0 t1 t2 M := by
  subst ho_t0
  have hF := qE_connect_20 x1 t1 t2 r
  unfold P_X12_connect_20 at H ⊢
  replace H := z_nne rfl H
  refine z_nn_of rfl ?_
  refine qS_goes S R H (fun x_1 M_1 r_M_1 H S_M_1 R_M_1 u => ?_)
  replace hF := hF.trans (q_ste2 u)
  refine And.intro (fun c1 => ?_) (fun c1 => ?_)
  · replace H := H.1 c1
    replace hF := hF.trans (if_pos c1)
    exact K _ _ H S_M_1 R_M_1 hF
  · replace H := H.2 c1
    replace hF := hF.trans (if_neg c1)
    intro M_4 e_M_4
    replace H := H M_4 e_M_4
    have S_M_4 : y_S n M_4 := by rw [e_M_4]; exact S_sfi S_M_1
    have R_M_4 := rep_sfi R_M_1 e_M_4
    obtain ⟨r_M_4, h_M_4⟩ := q_gen R_M_4
    replace hF := hF.trans (q_ste h_M_4.2)
    replace R_M_4 := h_M_4.1
    intro M_5 e_M_5
    replace H := H M_5 e_M_5
    have S_M_5 : y_S n M_5 := by rw [e_M_5]; exact S_sfi S_M_4
    have R_M_5 := rep_sfi R_M_4 e_M_5
    obtain ⟨r_M_5, h_M_5⟩ := q_gen R_M_5
    replace hF := hF.trans (q_ste h_M_5.2)
    replace R_M_5 := h_M_5.1
    intro M_6 e_M_6
    replace H := H M_6 e_M_6
    have S_M_6 : y_S n M_6 := by rw [e_M_6]; exact S_sfi S_M_5
    have R_M_6 := rep_sfi R_M_5 e_M_6
    obtain ⟨r_M_6, h_M_6⟩ := q_gen R_M_6
    replace hF := hF.trans (q_ste h_M_6.2)
    replace R_M_6 := h_M_6.1
    refine qS_saysHello S_M_6 R_M_6 H (fun M_7 r_M_7 H S_M_7 R_M_7 u => ?_)
    replace hF := hF.trans (q_ste u.symm)
    exact K _ _ H S_M_7 R_M_7 hF
set_option maxRecDepth 100000 in
noncomputable def qF_connect (p1 : Int32) (r : q_R) : q_R := (q_st2 (qF_in p1 (-1) 9 r) (fun (x_8 : Int32) r1 => (if ((r1.1 1577) = 0) then (qF_connect_20 p1 x_8 1 r1) else (qF_connect_20 p1 x_8 0 r1))))
set_option maxRecDepth 100000 in
theorem qE_connect (p1 : Int32) (r : q_R) : qF_connect p1 r = (q_st2 (qF_in p1 (-1) 9 r) (fun (x_8 : Int32) r1 => (if ((r1.1 1577) = 0) then (qF_connect_20 p1 x_8 1 r1) else (qF_connect_20 p1 x_8 0 r1)))) := rfl
set_option maxRecDepth 100000 in
set_option maxHeartbeats 4000000 in
theorem qS_connect {n : Nat} {Q Post : z_Mem → Prop} {p1 : Int32} {M : z_Mem} {r : q_R} (S : y_S n M) (R : q_rep n M r) (H : P_X12_connect (n + 40) p1 M Q) (K : ∀ M1 r1, Q M1 → y_S n M1 → q_rep n M1 r1 → qF_connect p1 r = r1 → Post M1) : P_X12_connect (n + 40) p1 M Post := by
  have hF := qE_connect p1 r
  unfold P_X12_connect at H ⊢
  refine qS_in S R H (fun x_8 M_8 r_M_8 H S_M_8 R_M_8 u => ?_)
  replace hF := hF.trans (q_ste2 u)
  try simp only [qf_1577 R_M_8] at H ⊢
  refine And.intro (fun c1 => ?_) (fun c1 => ?_)
  · replace H := H.1 c1
    replace hF := hF.trans (if_pos c1)
    exact qS_connect_20 rfl S_M_8 R_M_8 H (fun M1 r1 q1 q2 q3 u => K M1 r1 q1 q2 q3 (hF.trans u))
  · replace H := H.2 c1
    replace hF := hF.trans (if_neg c1)
    exact qS_connect_20 rfl S_M_8 R_M_8 H (fun M1 r1 q1 q2 q3 u => K M1 r1 q1 q2 q3 (hF.trans u))
set_option maxRecDepth 100000 in
noncomputable def qF_write_49 (x1 : Int32) (x2 : Int32) (t1 : Int32) (t2 : Int32) (t3 : Int32) (r : q_R) : (Int32 × q_R) := (q_st2 (qF_goes t1 t2 t3 r) (fun (x_1 : Int32) r1 => (if (x_1 = 0) then (0, r1) else (q_st (ua r1 66 (x1 : Int32).toNatClampNeg ((r1.2 66 (x1 : Int32).toNatClampNeg) + x2)) (fun r2 => ((r2.2 66 (x1 : Int32).toNatClampNeg), r2))))))
set_option maxRecDepth 100000 in
theorem qE_write_49 (x1 : Int32) (x2 : Int32) (t1 : Int32) (t2 : Int32) (t3 : Int32) (r : q_R) : qF_write_49 x1 x2 t1 t2 t3 r = (q_st2 (qF_goes t1 t2 t3 r) (fun (x_1 : Int32) r1 => (if (x_1 = 0) then (0, r1) else (q_st (ua r1 66 (x1 : Int32).toNatClampNeg ((r1.2 66 (x1 : Int32).toNatClampNeg) + x2)) (fun r2 => ((r2.2 66 (x1 : Int32).toNatClampNeg), r2)))))) := rfl
set_option maxRecDepth 100000 in
set_option maxHeartbeats 4000000 in
theorem qS_write_49 {n : Nat} {Q Post : Int32 → z_Mem → Prop} {x1 : Int32} {x2 : Int32} {t1 : Int32} {t2 : Int32} {t3 : Int32} {o_t0 : Option Nat} {M : z_Mem} {r : q_R} (ho_t0 : o_t0 = some (n + 40)) (S : y_S n M) (R : q_rep n M r) (H : P_X12_write_49 (n + 40) Q x1 x2 o_t0 t1 t2 t3 M) (K : ∀ x M1 r1, Q x M1 → y_S n M1 → q_rep n M1 r1 → qF_write_49 x1 x2 t1 t2 t3 r = (x, r1) → Post x M1) : P_X12_write_49 (n + 40) Post x1 x2 o_t0 t1 t2 t3 M := by
  subst ho_t0
  have hF := qE_write_49 x1 x2 t1 t2 t3 r
  unfold P_X12_write_49 at H ⊢
  replace H := z_nne rfl H
  refine z_nn_of rfl ?_
  refine qS_goes S R H (fun x_1 M_1 r_M_1 H S_M_1 R_M_1 u => ?_)
  replace hF := hF.trans (q_ste2 u)
  refine And.intro (fun c1 => ?_) (fun c1 => ?_)
  · replace H := H.1 c1
    replace hF := hF.trans (if_pos c1)
    exact K _ _ _ H S_M_1 R_M_1 hF
  · replace H := H.2 c1
    replace hF := hF.trans (if_neg c1)
    replace H := z_nne (s_1586_40 S_M_1) H
    refine z_nn_of (s_1586_40 S_M_1) ?_
    refine And.intro H.1 ?_
    replace H := H.2
    refine And.intro H.1 ?_
    replace H := H.2
    try simp only [qa_66 R_M_1] at H ⊢
    intro M_8 e_M_8
    replace H := H M_8 e_M_8
    have S_M_8 : y_S n M_8 := by rw [e_M_8]; exact S_sai S_M_1
    have R_M_8 := rep_sai R_M_1 (by decide) (by decide) e_M_8
    obtain ⟨r_M_8, h_M_8⟩ := q_gen R_M_8
    replace hF := hF.trans (q_ste h_M_8.2)
    replace R_M_8 := h_M_8.1
    replace H := z_nne (s_1586_40 S_M_8) H
    refine z_nn_of (s_1586_40 S_M_8) ?_
    refine And.intro H.1 ?_
    replace H := H.2
    try simp only [qa_66 R_M_8] at H ⊢
    exact K _ _ _ H S_M_8 R_M_8 hF
set_option maxRecDepth 100000 in
noncomputable def qF_write_48 (x1 : Int32) (x2 : Int32) (t1 : Int32) (t2 : Int32) (r : q_R) : (Int32 × q_R) := (qF_write_49 x1 x2 t1 t2 0 r)
set_option maxRecDepth 100000 in
theorem qE_write_48 (x1 : Int32) (x2 : Int32) (t1 : Int32) (t2 : Int32) (r : q_R) : qF_write_48 x1 x2 t1 t2 r = (qF_write_49 x1 x2 t1 t2 0 r) := rfl
set_option maxRecDepth 100000 in
set_option maxHeartbeats 4000000 in
theorem qS_write_48 {n : Nat} {Q Post : Int32 → z_Mem → Prop} {x1 : Int32} {x2 : Int32} {t1 : Int32} {t2 : Int32} {o_t0 : Option Nat} {M : z_Mem} {r : q_R} (ho_t0 : o_t0 = some (n + 40)) (S : y_S n M) (R : q_rep n M r) (H : P_X12_write_48 (n + 40) Q x1 x2 o_t0 t1 t2 M) (K : ∀ x M1 r1, Q x M1 → y_S n M1 → q_rep n M1 r1 → qF_write_48 x1 x2 t1 t2 r = (x, r1) → Post x M1) : P_X12_write_48 (n + 40) Post x1 x2 o_t0 t1 t2 M := by
  subst ho_t0
  have hF := qE_write_48 x1 x2 t1 t2 r
  unfold P_X12_write_48 at H ⊢
  exact qS_write_49 rfl S R H (fun x M1 r1 q1 q2 q3 u => K x M1 r1 q1 q2 q3 (hF.trans u))
set_option maxRecDepth 100000 in
noncomputable def qF_write (p1 : Int32) (p2 : Int32) (r : q_R) : (Int32 × q_R) := (q_st2 (qF_isStream p1 r) (fun (x_12 : Int32) r1 => (q_st2 (qF_in p2 1 200 r1) (fun (x_13 : Int32) r2 => (if (x_12 = 0) then (qF_write_48 p1 p2 x_12 x_13 r2) else (q_st2 (qF_in p2 1 200 r2) (fun (x_15 : Int32) r3 => (if (x_15 = 0) then (qF_write_48 p1 p2 x_12 x_13 r3) else (if (200 < ((r3.2 66 (p1 : Int32).toNatClampNeg) + p2)) then (qF_write_48 p1 p2 x_12 x_13 r3) else (qF_write_49 p1 p2 x_12 x_13 1 r3))))))))))
set_option maxRecDepth 100000 in
theorem qE_write (p1 : Int32) (p2 : Int32) (r : q_R) : qF_write p1 p2 r = (q_st2 (qF_isStream p1 r) (fun (x_12 : Int32) r1 => (q_st2 (qF_in p2 1 200 r1) (fun (x_13 : Int32) r2 => (if (x_12 = 0) then (qF_write_48 p1 p2 x_12 x_13 r2) else (q_st2 (qF_in p2 1 200 r2) (fun (x_15 : Int32) r3 => (if (x_15 = 0) then (qF_write_48 p1 p2 x_12 x_13 r3) else (if (200 < ((r3.2 66 (p1 : Int32).toNatClampNeg) + p2)) then (qF_write_48 p1 p2 x_12 x_13 r3) else (qF_write_49 p1 p2 x_12 x_13 1 r3)))))))))) := rfl
set_option maxRecDepth 100000 in
set_option maxHeartbeats 4000000 in
theorem qS_write {n : Nat} {Q Post : Int32 → z_Mem → Prop} {p1 : Int32} {p2 : Int32} {M : z_Mem} {r : q_R} (S : y_S n M) (R : q_rep n M r) (H : P_X12_write (n + 40) p1 p2 M Q) (K : ∀ x M1 r1, Q x M1 → y_S n M1 → q_rep n M1 r1 → qF_write p1 p2 r = (x, r1) → Post x M1) : P_X12_write (n + 40) p1 p2 M Post := by
  have hF := qE_write p1 p2 r
  unfold P_X12_write at H ⊢
  refine qS_isStream S R H (fun x_12 M_12 r_M_12 H S_M_12 R_M_12 u => ?_)
  replace hF := hF.trans (q_ste2 u)
  refine qS_in S_M_12 R_M_12 H (fun x_13 M_13 r_M_13 H S_M_13 R_M_13 u => ?_)
  replace hF := hF.trans (q_ste2 u)
  refine And.intro (fun c1 => ?_) (fun c1 => ?_)
  · replace H := H.1 c1
    replace hF := hF.trans (if_pos c1)
    exact qS_write_48 rfl S_M_13 R_M_13 H (fun x M1 r1 q1 q2 q3 u => K x M1 r1 q1 q2 q3 (hF.trans u))
  · replace H := H.2 c1
    replace hF := hF.trans (if_neg c1)
    refine qS_in S_M_13 R_M_13 H (fun x_15 M_15 r_M_15 H S_M_15 R_M_15 u => ?_)
    replace hF := hF.trans (q_ste2 u)
    refine And.intro (fun c2 => ?_) (fun c2 => ?_)
    · replace H := H.1 c2
      replace hF := hF.trans (if_pos c2)
      exact qS_write_48 rfl S_M_15 R_M_15 H (fun x M1 r1 q1 q2 q3 u => K x M1 r1 q1 q2 q3 (hF.trans u))
    · replace H := H.2 c2
      replace hF := hF.trans (if_neg c2)
      replace H := z_nne (s_1586_40 S_M_15) H
      refine z_nn_of (s_1586_40 S_M_15) ?_
      refine And.intro H.1 ?_
      replace H := H.2
      try simp only [qa_66 R_M_15] at H ⊢
      refine And.intro (fun c3 => ?_) (fun c3 => ?_)
      · replace H := H.1 c3
        replace hF := hF.trans (if_pos c3)
        exact qS_write_48 rfl S_M_15 R_M_15 H (fun x M1 r1 q1 q2 q3 u => K x M1 r1 q1 q2 q3 (hF.trans u))
      · replace H := H.2 c3
        replace hF := hF.trans (if_neg c3)
        exact qS_write_49 rfl S_M_15 R_M_15 H (fun x M1 r1 q1 q2 q3 u => K x M1 r1 q1 q2 q3 (hF.trans u))
set_option maxRecDepth 100000 in
noncomputable def qF_setWay (p1 : Int32) (p2 : Int32) (r : q_R) : (Int32 × q_R) := (q_st2 (qF_isPath p1 r) (fun (x_1 : Int32) r1 => (q_st2 (qF_in p2 0 2 r1) (fun (x_2 : Int32) r2 => (q_st2 (qF_goes x_1 x_2 1 r2) (fun (x_3 : Int32) r3 => (if (x_3 = 0) then (0, r3) else (q_st (r3.2 86 (p1 : Int32).toNatClampNeg) (fun (x_8 : Int32) => (q_st (ua r3 86 (p1 : Int32).toNatClampNeg p2) (fun r4 => (x_8, r4))))))))))))
set_option maxRecDepth 100000 in
theorem qE_setWay (p1 : Int32) (p2 : Int32) (r : q_R) : qF_setWay p1 p2 r = (q_st2 (qF_isPath p1 r) (fun (x_1 : Int32) r1 => (q_st2 (qF_in p2 0 2 r1) (fun (x_2 : Int32) r2 => (q_st2 (qF_goes x_1 x_2 1 r2) (fun (x_3 : Int32) r3 => (if (x_3 = 0) then (0, r3) else (q_st (r3.2 86 (p1 : Int32).toNatClampNeg) (fun (x_8 : Int32) => (q_st (ua r3 86 (p1 : Int32).toNatClampNeg p2) (fun r4 => (x_8, r4)))))))))))) := rfl
set_option maxRecDepth 100000 in
set_option maxHeartbeats 4000000 in
theorem qS_setWay {n : Nat} {Q Post : Int32 → z_Mem → Prop} {p1 : Int32} {p2 : Int32} {M : z_Mem} {r : q_R} (S : y_S n M) (R : q_rep n M r) (H : P_X12_setWay (n + 40) p1 p2 M Q) (K : ∀ x M1 r1, Q x M1 → y_S n M1 → q_rep n M1 r1 → qF_setWay p1 p2 r = (x, r1) → Post x M1) : P_X12_setWay (n + 40) p1 p2 M Post := by
  have hF := qE_setWay p1 p2 r
  unfold P_X12_setWay at H ⊢
  refine qS_isPath S R H (fun x_1 M_1 r_M_1 H S_M_1 R_M_1 u => ?_)
  replace hF := hF.trans (q_ste2 u)
  refine qS_in S_M_1 R_M_1 H (fun x_2 M_2 r_M_2 H S_M_2 R_M_2 u => ?_)
  replace hF := hF.trans (q_ste2 u)
  refine qS_goes S_M_2 R_M_2 H (fun x_3 M_3 r_M_3 H S_M_3 R_M_3 u => ?_)
  replace hF := hF.trans (q_ste2 u)
  refine And.intro (fun c1 => ?_) (fun c1 => ?_)
  · replace H := H.1 c1
    replace hF := hF.trans (if_pos c1)
    exact K _ _ _ H S_M_3 R_M_3 hF
  · replace H := H.2 c1
    replace hF := hF.trans (if_neg c1)
    replace H := z_nne (s_1609_40 S_M_3) H
    refine z_nn_of (s_1609_40 S_M_3) ?_
    refine And.intro H.1 ?_
    replace H := H.2
    try simp only [qa_86 R_M_3] at H ⊢
    intro x_8 e_x_8
    replace H := H x_8 e_x_8
    replace hF := hF.trans (q_ste e_x_8)
    replace H := z_nne (s_1609_40 S_M_3) H
    refine z_nn_of (s_1609_40 S_M_3) ?_
    refine And.intro H.1 ?_
    replace H := H.2
    intro M_12 e_M_12
    replace H := H M_12 e_M_12
    have S_M_12 : y_S n M_12 := by rw [e_M_12]; exact S_sai S_M_3
    have R_M_12 := rep_sai R_M_3 (by decide) (by decide) e_M_12
    obtain ⟨r_M_12, h_M_12⟩ := q_gen R_M_12
    replace hF := hF.trans (q_ste h_M_12.2)
    replace R_M_12 := h_M_12.1
    exact K _ _ _ H S_M_12 R_M_12 hF
set_option maxRecDepth 100000 in
noncomputable def qF_check (p1 : Int32) (r : q_R) : q_R := (q_st2 (qF_isPath p1 r) (fun (x_1 : Int32) r1 => (if ((r1.1 1577) = 2) then (q_st2 (qF_goes x_1 1 1 r1) (fun (x_7 : Int32) r2 => (if (x_7 = 0) then r2 else (q_st (qF_puts p1 3 0 r2) (fun r3 => r3))))) else (q_st2 (qF_goes x_1 0 1 r1) (fun (x_4 : Int32) r4 => (if (x_4 = 0) then r4 else (q_st (qF_puts p1 3 0 r4) (fun r5 => r5))))))))
set_option maxRecDepth 100000 in
theorem qE_check (p1 : Int32) (r : q_R) : qF_check p1 r = (q_st2 (qF_isPath p1 r) (fun (x_1 : Int32) r1 => (if ((r1.1 1577) = 2) then (q_st2 (qF_goes x_1 1 1 r1) (fun (x_7 : Int32) r2 => (if (x_7 = 0) then r2 else (q_st (qF_puts p1 3 0 r2) (fun r3 => r3))))) else (q_st2 (qF_goes x_1 0 1 r1) (fun (x_4 : Int32) r4 => (if (x_4 = 0) then r4 else (q_st (qF_puts p1 3 0 r4) (fun r5 => r5)))))))) := rfl
set_option maxRecDepth 100000 in
set_option maxHeartbeats 4000000 in
theorem qS_check {n : Nat} {Q Post : z_Mem → Prop} {p1 : Int32} {M : z_Mem} {r : q_R} (S : y_S n M) (R : q_rep n M r) (H : P_X12_check (n + 40) p1 M Q) (K : ∀ M1 r1, Q M1 → y_S n M1 → q_rep n M1 r1 → qF_check p1 r = r1 → Post M1) : P_X12_check (n + 40) p1 M Post := by
  have hF := qE_check p1 r
  unfold P_X12_check at H ⊢
  refine qS_isPath S R H (fun x_1 M_1 r_M_1 H S_M_1 R_M_1 u => ?_)
  replace hF := hF.trans (q_ste2 u)
  try simp only [qf_1577 R_M_1] at H ⊢
  refine And.intro (fun c1 => ?_) (fun c1 => ?_)
  · replace H := H.1 c1
    replace hF := hF.trans (if_pos c1)
    refine qS_goes S_M_1 R_M_1 H (fun x_7 M_7 r_M_7 H S_M_7 R_M_7 u => ?_)
    replace hF := hF.trans (q_ste2 u)
    refine And.intro (fun c2 => ?_) (fun c2 => ?_)
    · replace H := H.1 c2
      replace hF := hF.trans (if_pos c2)
      exact K _ _ H S_M_7 R_M_7 hF
    · replace H := H.2 c2
      replace hF := hF.trans (if_neg c2)
      refine qS_puts S_M_7 R_M_7 H (fun M_9 r_M_9 H S_M_9 R_M_9 u => ?_)
      replace hF := hF.trans (q_ste u.symm)
      exact K _ _ H S_M_9 R_M_9 hF
  · replace H := H.2 c1
    replace hF := hF.trans (if_neg c1)
    refine qS_goes S_M_1 R_M_1 H (fun x_4 M_4 r_M_4 H S_M_4 R_M_4 u => ?_)
    replace hF := hF.trans (q_ste2 u)
    refine And.intro (fun c3 => ?_) (fun c3 => ?_)
    · replace H := H.1 c3
      replace hF := hF.trans (if_pos c3)
      exact K _ _ H S_M_4 R_M_4 hF
    · replace H := H.2 c3
      replace hF := hF.trans (if_neg c3)
      refine qS_puts S_M_4 R_M_4 H (fun M_6 r_M_6 H S_M_6 R_M_6 u => ?_)
      replace hF := hF.trans (q_ste u.symm)
      exact K _ _ H S_M_6 R_M_6 hF
set_option maxRecDepth 100000 in
noncomputable def qF_use_45 (x1 : Int32) (t1 : Int32) (t2 : Int32) (r : q_R) : (Int32 × q_R) := (q_st2 (qF_goes t1 t2 1 r) (fun (x_1 : Int32) r1 => (if (x_1 = 0) then (0, r1) else (q_st (r1.1 1583) (fun (x_5 : Int32) => (q_st (uf r1 1583 x1) (fun r2 => (x_5, r2))))))))
set_option maxRecDepth 100000 in
theorem qE_use_45 (x1 : Int32) (t1 : Int32) (t2 : Int32) (r : q_R) : qF_use_45 x1 t1 t2 r = (q_st2 (qF_goes t1 t2 1 r) (fun (x_1 : Int32) r1 => (if (x_1 = 0) then (0, r1) else (q_st (r1.1 1583) (fun (x_5 : Int32) => (q_st (uf r1 1583 x1) (fun r2 => (x_5, r2)))))))) := rfl
set_option maxRecDepth 100000 in
set_option maxHeartbeats 4000000 in
theorem qS_use_45 {n : Nat} {Q Post : Int32 → z_Mem → Prop} {x1 : Int32} {t1 : Int32} {t2 : Int32} {o_t0 : Option Nat} {M : z_Mem} {r : q_R} (ho_t0 : o_t0 = some (n + 40)) (S : y_S n M) (R : q_rep n M r) (H : P_X12_use_45 (n + 40) Q x1 o_t0 t1 t2 M) (K : ∀ x M1 r1, Q x M1 → y_S n M1 → q_rep n M1 r1 → qF_use_45 x1 t1 t2 r = (x, r1) → Post x M1) : P_X12_use_45 (n + 40) Post x1 o_t0 t1 t2 M := by
  subst ho_t0
  have hF := qE_use_45 x1 t1 t2 r
  unfold P_X12_use_45 at H ⊢
  replace H := z_nne rfl H
  refine z_nn_of rfl ?_
  refine qS_goes S R H (fun x_1 M_1 r_M_1 H S_M_1 R_M_1 u => ?_)
  replace hF := hF.trans (q_ste2 u)
  refine And.intro (fun c1 => ?_) (fun c1 => ?_)
  · replace H := H.1 c1
    replace hF := hF.trans (if_pos c1)
    exact K _ _ _ H S_M_1 R_M_1 hF
  · replace H := H.2 c1
    replace hF := hF.trans (if_neg c1)
    try simp only [qf_1583 R_M_1] at H ⊢
    intro x_5 e_x_5
    replace H := H x_5 e_x_5
    replace hF := hF.trans (q_ste e_x_5)
    intro M_6 e_M_6
    replace H := H M_6 e_M_6
    have S_M_6 : y_S n M_6 := by rw [e_M_6]; exact S_sfi S_M_1
    have R_M_6 := rep_sfi R_M_1 e_M_6
    obtain ⟨r_M_6, h_M_6⟩ := q_gen R_M_6
    replace hF := hF.trans (q_ste h_M_6.2)
    replace R_M_6 := h_M_6.1
    exact K _ _ _ H S_M_6 R_M_6 hF
set_option maxRecDepth 100000 in
noncomputable def qF_use_40 (x1 : Int32) (t1 : Int32) (r : q_R) : (Int32 × q_R) := (qF_use_45 x1 t1 1 r)
set_option maxRecDepth 100000 in
theorem qE_use_40 (x1 : Int32) (t1 : Int32) (r : q_R) : qF_use_40 x1 t1 r = (qF_use_45 x1 t1 1 r) := rfl
set_option maxRecDepth 100000 in
set_option maxHeartbeats 4000000 in
theorem qS_use_40 {n : Nat} {Q Post : Int32 → z_Mem → Prop} {x1 : Int32} {t1 : Int32} {o_t0 : Option Nat} {M : z_Mem} {r : q_R} (ho_t0 : o_t0 = some (n + 40)) (S : y_S n M) (R : q_rep n M r) (H : P_X12_use_40 (n + 40) Q x1 o_t0 t1 M) (K : ∀ x M1 r1, Q x M1 → y_S n M1 → q_rep n M1 r1 → qF_use_40 x1 t1 r = (x, r1) → Post x M1) : P_X12_use_40 (n + 40) Post x1 o_t0 t1 M := by
  subst ho_t0
  have hF := qE_use_40 x1 t1 r
  unfold P_X12_use_40 at H ⊢
  exact qS_use_45 rfl S R H (fun x M1 r1 q1 q2 q3 u => K x M1 r1 q1 q2 q3 (hF.trans u))
