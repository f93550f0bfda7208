/-! ===== THE REFERENCE as functions on its cells, 2 ===== -/
set_option maxRecDepth 100000 in
noncomputable def qF_leaves_30 (x1 : Int32) (t0 : Int32) (r : q_R) : q_R := (qF_leaves_33 x1 t0 0 r)
set_option maxRecDepth 100000 in
theorem qE_leaves_30 (x1 : Int32) (t0 : Int32) (r : q_R) : qF_leaves_30 x1 t0 r = (qF_leaves_33 x1 t0 0 r) := rfl
set_option maxRecDepth 100000 in
set_option maxHeartbeats 4000000 in
theorem qS_leaves_30 {n : Nat} {Q Post : z_Mem → Prop} {x1 : Int32} {t0 : Int32} {M : z_Mem} {r : q_R} (S : y_S n M) (R : q_rep n M r) (H : P_X12_leaves_30 (n + 40) Q x1 t0 M) (K : ∀ M1 r1, Q M1 → y_S n M1 → q_rep n M1 r1 → qF_leaves_30 x1 t0 r = r1 → Post M1) : P_X12_leaves_30 (n + 40) Post x1 t0 M := by
  have hF := qE_leaves_30 x1 t0 r
  unfold P_X12_leaves_30 at H ⊢
  obtain ⟨m, H⟩ := H
  refine ⟨m, ?_⟩
  exact qS_leaves_33 m S R H (fun M1 r1 q1 q2 q3 u => K M1 r1 q1 q2 q3 (hF.trans u))
set_option maxRecDepth 100000 in
noncomputable def qF_leaves (p1 : Int32) (r : q_R) : q_R := (if ((r.2 42 (p1 : Int32).toNatClampNeg) ≤ (r.2 51 (p1 : Int32).toNatClampNeg)) then (qF_leaves_30 p1 (r.2 42 (p1 : Int32).toNatClampNeg) r) else (qF_leaves_30 p1 (r.2 51 (p1 : Int32).toNatClampNeg) r))
set_option maxRecDepth 100000 in
theorem qE_leaves (p1 : Int32) (r : q_R) : qF_leaves p1 r = (if ((r.2 42 (p1 : Int32).toNatClampNeg) ≤ (r.2 51 (p1 : Int32).toNatClampNeg)) then (qF_leaves_30 p1 (r.2 42 (p1 : Int32).toNatClampNeg) r) else (qF_leaves_30 p1 (r.2 51 (p1 : Int32).toNatClampNeg) r)) := rfl
set_option maxRecDepth 100000 in
set_option maxHeartbeats 4000000 in
theorem qS_leaves {n : Nat} {Q Post : z_Mem → Prop} {p1 : Int32} {M : z_Mem} {r : q_R} (S : y_S n M) (R : q_rep n M r) (H : P_X12_leaves (n + 40) p1 M Q) (K : ∀ M1 r1, Q M1 → y_S n M1 → q_rep n M1 r1 → qF_leaves p1 r = r1 → Post M1) : P_X12_leaves (n + 40) p1 M Post := by
  have hF := qE_leaves p1 r
  unfold P_X12_leaves at H ⊢
  replace H := z_nne (s_1547_40 S) H
  refine z_nn_of (s_1547_40 S) ?_
  refine And.intro H.1 ?_
  replace H := H.2
  replace H := z_nne (s_1538_40 S) H
  refine z_nn_of (s_1538_40 S) ?_
  refine And.intro H.1 ?_
  replace H := H.2
  try simp only [qa_42 R, qa_51 R] at H ⊢
  refine And.intro (fun c1 => ?_) (fun c1 => ?_)
  · replace H := H.1 c1
    replace hF := hF.trans (if_pos c1)
    replace H := z_nne (s_1538_40 S) H
    refine z_nn_of (s_1538_40 S) ?_
    refine And.intro H.1 ?_
    replace H := H.2
    try simp only [qa_42 R] at H ⊢
    exact qS_leaves_30 S R H (fun M1 r1 q1 q2 q3 u => K M1 r1 q1 q2 q3 (hF.trans u))
  · replace H := H.2 c1
    replace hF := hF.trans (if_neg c1)
    replace H := z_nne (s_1547_40 S) H
    refine z_nn_of (s_1547_40 S) ?_
    refine And.intro H.1 ?_
    replace H := H.2
    try simp only [qa_51 R] at H ⊢
    exact qS_leaves_30 S R H (fun M1 r1 q1 q2 q3 u => K M1 r1 q1 q2 q3 (hF.trans u))
set_option maxRecDepth 100000 in
noncomputable def qB_gotOf_2 (x1 : Int32) (x2 : Int32) (r : q_R) : (Int32 × Int32 × q_R) ⊕ (Int32 × q_R) := (if (200 ≤ x2) then (.inr (x2, r)) else (if ((r.2 64 (((200 * x1) + x2) : Int32).toNatClampNeg) = 0) then (.inr (x2, r)) else (q_st (x2 + 1) (fun (x_6 : Int32) => (.inl (x1, x_6, r))))))
set_option maxRecDepth 100000 in
noncomputable def qF_gotOf_2 (x1 : Int32) (x2 : Int32) (r : q_R) : (Int32 × q_R) := q_lp (X := (Int32 × Int32 × q_R)) (Y := (Int32 × q_R)) ((0 : Int32), r) (fun t => qB_gotOf_2 t.1 t.2.1 t.2.2) (x1, x2, r)
set_option maxRecDepth 100000 in
theorem qUl_gotOf_2 {x1 : Int32} {x2 : Int32} {r : q_R} {y_x1 : Int32} {y_x2 : Int32} {r1 : q_R} (h : qB_gotOf_2 x1 x2 r = .inl (y_x1, y_x2, r1)) : qF_gotOf_2 x1 x2 r = qF_gotOf_2 y_x1 y_x2 r1 := q_lpl (step := fun t => qB_gotOf_2 t.1 t.2.1 t.2.2) h
set_option maxRecDepth 100000 in
theorem qUr_gotOf_2 {x1 : Int32} {x2 : Int32} {r : q_R} {y : (Int32 × q_R)} (h : qB_gotOf_2 x1 x2 r = .inr y) : qF_gotOf_2 x1 x2 r = y := q_lpr (step := fun t => qB_gotOf_2 t.1 t.2.1 t.2.2) h
set_option maxRecDepth 100000 in
theorem qE_gotOf_2 (x1 : Int32) (x2 : Int32) (r : q_R) : qB_gotOf_2 x1 x2 r = (if (200 ≤ x2) then (.inr (x2, r)) else (if ((r.2 64 (((200 * x1) + x2) : Int32).toNatClampNeg) = 0) then (.inr (x2, r)) else (q_st (x2 + 1) (fun (x_6 : Int32) => (.inl (x1, x_6, r)))))) := rfl
set_option maxRecDepth 100000 in
set_option maxHeartbeats 4000000 in
theorem qS_gotOf_2 {n : Nat} {Q Post : Int32 → z_Mem → Prop} : ∀ (m : Nat) {x1 : Int32} {x2 : Int32} {M : z_Mem} {r : q_R} (S : y_S n M) (R : q_rep n M r) (H : P_X12_gotOf_2 (n + 40) Q m x1 x2 M) (K : ∀ x M1 r1, Q x M1 → y_S n M1 → q_rep n M1 r1 → qF_gotOf_2 x1 x2 r = (x, r1) → Post x M1), P_X12_gotOf_2 (n + 40) Post m x1 x2 M := by
  intro m
  induction m with
  | zero => intros; rename_i H _; exact False.elim H
  | succ m ih =>
    intro x1 x2 M r S R H K
    have hF := qE_gotOf_2 x1 x2 r
    unfold P_X12_gotOf_2 at H ⊢
    refine And.intro (fun c1 => ?_) (fun c1 => ?_)
    · replace H := H.1 c1
      replace hF := hF.trans (if_pos c1)
      exact K _ _ _ H S R (qUr_gotOf_2 hF)
    · replace H := H.2 c1
      replace hF := hF.trans (if_neg c1)
      replace H := z_nne (s_1570_40 S) H
      refine z_nn_of (s_1570_40 S) ?_
      refine And.intro H.1 ?_
      replace H := H.2
      try simp only [qa_64 R] at H ⊢
      refine And.intro (fun c2 => ?_) (fun c2 => ?_)
      · replace H := H.1 c2
        replace hF := hF.trans (if_pos c2)
        exact K _ _ _ H S R (qUr_gotOf_2 hF)
      · replace H := H.2 c2
        replace hF := hF.trans (if_neg c2)
        intro x_6 e_x_6
        replace H := H x_6 e_x_6
        replace hF := hF.trans (q_ste e_x_6)
        replace hF := qUl_gotOf_2 hF
        exact ih S R H (fun x M1 r1 q1 q2 q3 u => K x M1 r1 q1 q2 q3 (hF.trans u))
set_option maxRecDepth 100000 in
noncomputable def qF_gotOf (p1 : Int32) (r : q_R) : (Int32 × q_R) := (qF_gotOf_2 p1 0 r)
set_option maxRecDepth 100000 in
theorem qE_gotOf (p1 : Int32) (r : q_R) : qF_gotOf p1 r = (qF_gotOf_2 p1 0 r) := rfl
set_option maxRecDepth 100000 in
set_option maxHeartbeats 4000000 in
theorem qS_gotOf {n : Nat} {Q Post : Int32 → z_Mem → Prop} {p1 : Int32} {M : z_Mem} {r : q_R} (S : y_S n M) (R : q_rep n M r) (H : P_X12_gotOf (n + 40) p1 M Q) (K : ∀ x M1 r1, Q x M1 → y_S n M1 → q_rep n M1 r1 → qF_gotOf p1 r = (x, r1) → Post x M1) : P_X12_gotOf (n + 40) p1 M Post := by
  have hF := qE_gotOf p1 r
  unfold P_X12_gotOf at H ⊢
  obtain ⟨m, H⟩ := H
  refine ⟨m, ?_⟩
  exact qS_gotOf_2 m S R H (fun x M1 r1 q1 q2 q3 u => K x M1 r1 q1 q2 q3 (hF.trans u))
set_option maxRecDepth 100000 in
noncomputable def qF_acknowledges_86 (x1 : Int32) (x2 : Int32) (x3 : Int32) (r : q_R) : ((Int32 × Int32 × Int32 × q_R) ⊕ q_R) := (q_st (x3 + (-1)) (fun (x_1 : Int32) => (.inl (x1, x2, x_1, r))))
set_option maxRecDepth 100000 in
theorem qE_acknowledges_86 (x1 : Int32) (x2 : Int32) (x3 : Int32) (r : q_R) : qF_acknowledges_86 x1 x2 x3 r = (q_st (x3 + (-1)) (fun (x_1 : Int32) => (.inl (x1, x2, x_1, r)))) := rfl
set_option maxRecDepth 100000 in
set_option maxHeartbeats 4000000 in
theorem qS_acknowledges_86 {n : Nat} {Q Post : z_Mem → Prop} {QJ14 PJ14 : Int32 → Int32 → Int32 → z_Mem → Prop} {x1 : Int32} {x2 : Int32} {x3 : Int32} {M : z_Mem} {r : q_R} (S : y_S n M) (R : q_rep n M r) (H : P_X12_acknowledges_86 (n + 40) Q QJ14 x1 x2 x3 M) (K : ∀ M1 r1, Q M1 → y_S n M1 → q_rep n M1 r1 → qF_acknowledges_86 x1 x2 x3 r = (.inr r1) → Post M1) (KJ14 : ∀ v0 v1 v2 M1 r1, QJ14 v0 v1 v2 M1 → y_S n M1 → q_rep n M1 r1 → qF_acknowledges_86 x1 x2 x3 r = (.inl (v0, v1, v2, r1)) → PJ14 v0 v1 v2 M1) : P_X12_acknowledges_86 (n + 40) Post PJ14 x1 x2 x3 M := by
  have hF := qE_acknowledges_86 x1 x2 x3 r
  unfold P_X12_acknowledges_86 at H ⊢
  intro x_1 e_x_1
  replace H := H x_1 e_x_1
  replace hF := hF.trans (q_ste e_x_1)
  exact KJ14 _ _ _ _ _ H S R hF
set_option maxRecDepth 100000 in
noncomputable def qF_acknowledges_56 (x1 : Int32) (x2 : Int32) (x3 : Int32) (x4 : Int32) (r : q_R) : ((Int32 × Int32 × Int32 × q_R) ⊕ q_R) := (q_st (ua r 61 (((x1 + 1) + (2 * x2)) : Int32).toNatClampNeg x3) (fun r1 => (q_st (ua r1 61 (((x1 + 2) + (2 * x2)) : Int32).toNatClampNeg x4) (fun r2 => (q_st (x2 + 1) (fun (x_10 : Int32) => (qF_acknowledges_86 x1 x_10 x3 r2)))))))
set_option maxRecDepth 100000 in
theorem qE_acknowledges_56 (x1 : Int32) (x2 : Int32) (x3 : Int32) (x4 : Int32) (r : q_R) : qF_acknowledges_56 x1 x2 x3 x4 r = (q_st (ua r 61 (((x1 + 1) + (2 * x2)) : Int32).toNatClampNeg x3) (fun r1 => (q_st (ua r1 61 (((x1 + 2) + (2 * x2)) : Int32).toNatClampNeg x4) (fun r2 => (q_st (x2 + 1) (fun (x_10 : Int32) => (qF_acknowledges_86 x1 x_10 x3 r2))))))) := rfl
set_option maxRecDepth 100000 in
set_option maxHeartbeats 4000000 in
theorem qS_acknowledges_56 {n : Nat} {Q Post : z_Mem → Prop} {QJ14 PJ14 : Int32 → Int32 → Int32 → z_Mem → Prop} {x1 : Int32} {x2 : Int32} {x3 : Int32} {x4 : Int32} {M : z_Mem} {r : q_R} (S : y_S n M) (R : q_rep n M r) (H : P_X12_acknowledges_56 (n + 40) Q QJ14 x1 x2 x3 x4 M) (K : ∀ M1 r1, Q M1 → y_S n M1 → q_rep n M1 r1 → qF_acknowledges_56 x1 x2 x3 x4 r = (.inr r1) → Post M1) (KJ14 : ∀ v0 v1 v2 M1 r1, QJ14 v0 v1 v2 M1 → y_S n M1 → q_rep n M1 r1 → qF_acknowledges_56 x1 x2 x3 x4 r = (.inl (v0, v1, v2, r1)) → PJ14 v0 v1 v2 M1) : P_X12_acknowledges_56 (n + 40) Post PJ14 x1 x2 x3 x4 M := by
  have hF := qE_acknowledges_56 x1 x2 x3 x4 r
  unfold P_X12_acknowledges_56 at H ⊢
  replace H := z_nne (s_1560_40 S) H
  refine z_nn_of (s_1560_40 S) ?_
  refine And.intro H.1 ?_
  replace H := H.2
  intro M_5 e_M_5
  replace H := H M_5 e_M_5
  have S_M_5 : y_S n M_5 := by rw [e_M_5]; exact S_sai S
  have R_M_5 := rep_sai R (by decide) (by decide) e_M_5
  obtain ⟨r_M_5, h_M_5⟩ := q_gen R_M_5
  replace hF := hF.trans (q_ste h_M_5.2)
  replace R_M_5 := h_M_5.1
  replace H := z_nne (s_1560_40 S_M_5) H
  refine z_nn_of (s_1560_40 S_M_5) ?_
  refine And.intro H.1 ?_
  replace H := H.2
  intro M_9 e_M_9
  replace H := H M_9 e_M_9
  have S_M_9 : y_S n M_9 := by rw [e_M_9]; exact S_sai S_M_5
  have R_M_9 := rep_sai R_M_5 (by decide) (by decide) e_M_9
  obtain ⟨r_M_9, h_M_9⟩ := q_gen R_M_9
  replace hF := hF.trans (q_ste h_M_9.2)
  replace R_M_9 := h_M_9.1
  intro x_10 e_x_10
  replace H := H x_10 e_x_10
  replace hF := hF.trans (q_ste e_x_10)
  exact qS_acknowledges_86 S_M_9 R_M_9 H (fun M1 r1 q1 q2 q3 u => K M1 r1 q1 q2 q3 (hF.trans u)) (fun v0 v1 v2 M1 r1 q1 q2 q3 u => KJ14 v0 v1 v2 M1 r1 q1 q2 q3 (hF.trans u))
set_option maxRecDepth 100000 in
noncomputable def qB_acknowledges_35 (x1 : Int32) (x2 : Int32) (x3 : Int32) (x4 : Int32) (r : q_R) : (Int32 × Int32 × Int32 × Int32 × q_R) ⊕ ((Int32 × Int32 × Int32 × q_R) ⊕ q_R) := (if (x3 ≤ 0) then (.inr (qF_acknowledges_56 x1 x2 x3 x4 r)) else (if ((r.2 63 ((x3 - 1) : Int32).toNatClampNeg) = 0) then (.inr (qF_acknowledges_56 x1 x2 x3 x4 r)) else (q_st (x3 + (-1)) (fun (x_16 : Int32) => (.inl (x1, x2, x_16, x4, r))))))
set_option maxRecDepth 100000 in
noncomputable def qF_acknowledges_35 (x1 : Int32) (x2 : Int32) (x3 : Int32) (x4 : Int32) (r : q_R) : ((Int32 × Int32 × Int32 × q_R) ⊕ q_R) := q_lp (X := (Int32 × Int32 × Int32 × Int32 × q_R)) (Y := ((Int32 × Int32 × Int32 × q_R) ⊕ q_R)) (.inr r) (fun t => qB_acknowledges_35 t.1 t.2.1 t.2.2.1 t.2.2.2.1 t.2.2.2.2) (x1, x2, x3, x4, r)
set_option maxRecDepth 100000 in
theorem qUl_acknowledges_35 {x1 : Int32} {x2 : Int32} {x3 : Int32} {x4 : Int32} {r : q_R} {y_x1 : Int32} {y_x2 : Int32} {y_x3 : Int32} {y_x4 : Int32} {r1 : q_R} (h : qB_acknowledges_35 x1 x2 x3 x4 r = .inl (y_x1, y_x2, y_x3, y_x4, r1)) : qF_acknowledges_35 x1 x2 x3 x4 r = qF_acknowledges_35 y_x1 y_x2 y_x3 y_x4 r1 := q_lpl (step := fun t => qB_acknowledges_35 t.1 t.2.1 t.2.2.1 t.2.2.2.1 t.2.2.2.2) h
set_option maxRecDepth 100000 in
theorem qUr_acknowledges_35 {x1 : Int32} {x2 : Int32} {x3 : Int32} {x4 : Int32} {r : q_R} {y : ((Int32 × Int32 × Int32 × q_R) ⊕ q_R)} (h : qB_acknowledges_35 x1 x2 x3 x4 r = .inr y) : qF_acknowledges_35 x1 x2 x3 x4 r = y := q_lpr (step := fun t => qB_acknowledges_35 t.1 t.2.1 t.2.2.1 t.2.2.2.1 t.2.2.2.2) h
set_option maxRecDepth 100000 in
theorem qE_acknowledges_35 (x1 : Int32) (x2 : Int32) (x3 : Int32) (x4 : Int32) (r : q_R) : qB_acknowledges_35 x1 x2 x3 x4 r = (if (x3 ≤ 0) then (.inr (qF_acknowledges_56 x1 x2 x3 x4 r)) else (if ((r.2 63 ((x3 - 1) : Int32).toNatClampNeg) = 0) then (.inr (qF_acknowledges_56 x1 x2 x3 x4 r)) else (q_st (x3 + (-1)) (fun (x_16 : Int32) => (.inl (x1, x2, x_16, x4, r)))))) := rfl
set_option maxRecDepth 100000 in
set_option maxHeartbeats 4000000 in
theorem qS_acknowledges_35 {n : Nat} {Q Post : z_Mem → Prop} {QJ14 PJ14 : Int32 → Int32 → Int32 → z_Mem → Prop} : ∀ (m : Nat) {x1 : Int32} {x2 : Int32} {x3 : Int32} {x4 : Int32} {M : z_Mem} {r : q_R} (S : y_S n M) (R : q_rep n M r) (H : P_X12_acknowledges_35 (n + 40) Q QJ14 m x1 x2 x3 x4 M) (K : ∀ M1 r1, Q M1 → y_S n M1 → q_rep n M1 r1 → qF_acknowledges_35 x1 x2 x3 x4 r = (.inr r1) → Post M1) (KJ14 : ∀ v0 v1 v2 M1 r1, QJ14 v0 v1 v2 M1 → y_S n M1 → q_rep n M1 r1 → qF_acknowledges_35 x1 x2 x3 x4 r = (.inl (v0, v1, v2, r1)) → PJ14 v0 v1 v2 M1), P_X12_acknowledges_35 (n + 40) Post PJ14 m x1 x2 x3 x4 M := by
  intro m
  induction m with
  | zero => intros; rename_i H _ _; exact False.elim H
  | succ m ih =>
    intro x1 x2 x3 x4 M r S R H K KJ14
    have hF := qE_acknowledges_35 x1 x2 x3 x4 r
    unfold P_X12_acknowledges_35 at H ⊢
    refine And.intro (fun c1 => ?_) (fun c1 => ?_)
    · replace H := H.1 c1
      replace hF := hF.trans (if_pos c1)
      exact qS_acknowledges_56 S R H (fun M1 r1 q1 q2 q3 u => K M1 r1 q1 q2 q3 (qUr_acknowledges_35 (hF.trans (congrArg Sum.inr u)))) (fun w0 w1 w2 M1 r1 q1 q2 q3 u => KJ14 w0 w1 w2 M1 r1 q1 q2 q3 (qUr_acknowledges_35 (hF.trans (congrArg Sum.inr u))))
    · replace H := H.2 c1
      replace hF := hF.trans (if_neg c1)
      replace H := z_nne (s_1569_40 S) H
      refine z_nn_of (s_1569_40 S) ?_
      refine And.intro H.1 ?_
      replace H := H.2
      try simp only [qa_63 R] at H ⊢
      refine And.intro (fun c2 => ?_) (fun c2 => ?_)
      · replace H := H.1 c2
        replace hF := hF.trans (if_pos c2)
        exact qS_acknowledges_56 S R H (fun M1 r1 q1 q2 q3 u => K M1 r1 q1 q2 q3 (qUr_acknowledges_35 (hF.trans (congrArg Sum.inr u)))) (fun w0 w1 w2 M1 r1 q1 q2 q3 u => KJ14 w0 w1 w2 M1 r1 q1 q2 q3 (qUr_acknowledges_35 (hF.trans (congrArg Sum.inr u))))
      · replace H := H.2 c2
        replace hF := hF.trans (if_neg c2)
        intro x_16 e_x_16
        replace H := H x_16 e_x_16
        replace hF := hF.trans (q_ste e_x_16)
        replace hF := qUl_acknowledges_35 hF
        exact ih S R H (fun M1 r1 q1 q2 q3 u => K M1 r1 q1 q2 q3 (hF.trans u)) (fun v0 v1 v2 M1 r1 q1 q2 q3 u => KJ14 v0 v1 v2 M1 r1 q1 q2 q3 (hF.trans u))
set_option maxRecDepth 100000 in
noncomputable def qB_acknowledges_119 (x1 : Int32) (x4 : Int32) (x5 : Int32) (r : q_R) : (Int32 × Int32 × Int32 × q_R) ⊕ q_R := (if (4 ≤ x5) then (q_st (ua r 61 ((x1 + 14) : Int32).toNatClampNeg x4) (fun r1 => (q_st (uf r1 1561 ((r1.1 1561) + 1)) (fun r2 => (q_st (ua r2 106 (4 : Int32).toNatClampNeg ((r2.2 106 (4 : Int32).toNatClampNeg) + 1)) (fun r3 => (q_st (uf r3 1573 0) (fun r4 => (q_st (uf r4 1574 (-1)) (fun r5 => (q_st (qF_answers (r5.1 1575) 7 ((r5.1 1561) - 1) r5) (fun r6 => (.inr r6))))))))))))) else (q_st (ua r 61 (((x1 + 10) + x5) : Int32).toNatClampNeg ((r.2 65 (x5 : Int32).toNatClampNeg) + 40)) (fun r7 => (q_st (x4 + (r7.2 65 (x5 : Int32).toNatClampNeg)) (fun (x_44 : Int32) => (q_st (x5 + 1) (fun (x_45 : Int32) => (.inl (x1, x_44, x_45, r7)))))))))
set_option maxRecDepth 100000 in
noncomputable def qF_acknowledges_119 (x1 : Int32) (x4 : Int32) (x5 : Int32) (r : q_R) : q_R := q_lp (X := (Int32 × Int32 × Int32 × q_R)) (Y := q_R) r (fun t => qB_acknowledges_119 t.1 t.2.1 t.2.2.1 t.2.2.2) (x1, x4, x5, r)
set_option maxRecDepth 100000 in
theorem qUl_acknowledges_119 {x1 : Int32} {x4 : Int32} {x5 : Int32} {r : q_R} {y_x1 : Int32} {y_x4 : Int32} {y_x5 : Int32} {r1 : q_R} (h : qB_acknowledges_119 x1 x4 x5 r = .inl (y_x1, y_x4, y_x5, r1)) : qF_acknowledges_119 x1 x4 x5 r = qF_acknowledges_119 y_x1 y_x4 y_x5 r1 := q_lpl (step := fun t => qB_acknowledges_119 t.1 t.2.1 t.2.2.1 t.2.2.2) h
set_option maxRecDepth 100000 in
theorem qUr_acknowledges_119 {x1 : Int32} {x4 : Int32} {x5 : Int32} {r : q_R} {y : q_R} (h : qB_acknowledges_119 x1 x4 x5 r = .inr y) : qF_acknowledges_119 x1 x4 x5 r = y := q_lpr (step := fun t => qB_acknowledges_119 t.1 t.2.1 t.2.2.1 t.2.2.2) h
set_option maxRecDepth 100000 in
theorem qE_acknowledges_119 (x1 : Int32) (x4 : Int32) (x5 : Int32) (r : q_R) : qB_acknowledges_119 x1 x4 x5 r = (if (4 ≤ x5) then (q_st (ua r 61 ((x1 + 14) : Int32).toNatClampNeg x4) (fun r1 => (q_st (uf r1 1561 ((r1.1 1561) + 1)) (fun r2 => (q_st (ua r2 106 (4 : Int32).toNatClampNeg ((r2.2 106 (4 : Int32).toNatClampNeg) + 1)) (fun r3 => (q_st (uf r3 1573 0) (fun r4 => (q_st (uf r4 1574 (-1)) (fun r5 => (q_st (qF_answers (r5.1 1575) 7 ((r5.1 1561) - 1) r5) (fun r6 => (.inr r6))))))))))))) else (q_st (ua r 61 (((x1 + 10) + x5) : Int32).toNatClampNeg ((r.2 65 (x5 : Int32).toNatClampNeg) + 40)) (fun r7 => (q_st (x4 + (r7.2 65 (x5 : Int32).toNatClampNeg)) (fun (x_44 : Int32) => (q_st (x5 + 1) (fun (x_45 : Int32) => (.inl (x1, x_44, x_45, r7))))))))) := rfl
set_option maxRecDepth 100000 in
set_option maxHeartbeats 4000000 in
theorem qS_acknowledges_119 {n : Nat} {Q Post : z_Mem → Prop} : ∀ (m : Nat) {x1 : Int32} {x4 : Int32} {x5 : Int32} {M : z_Mem} {r : q_R} (S : y_S n M) (R : q_rep n M r) (H : P_X12_acknowledges_119 (n + 40) Q m x1 x4 x5 M) (K : ∀ M1 r1, Q M1 → y_S n M1 → q_rep n M1 r1 → qF_acknowledges_119 x1 x4 x5 r = r1 → Post M1), P_X12_acknowledges_119 (n + 40) Post m x1 x4 x5 M := by
  intro m
  induction m with
  | zero => intros; rename_i H _; exact False.elim H
  | succ m ih =>
    intro x1 x4 x5 M r S R H K
    have hF := qE_acknowledges_119 x1 x4 x5 r
    unfold P_X12_acknowledges_119 at H ⊢
    refine And.intro (fun c1 => ?_) (fun c1 => ?_)
    · replace H := H.1 c1
      replace hF := hF.trans (if_pos c1)
      replace H := z_nne (s_1560_40 S) H
      refine z_nn_of (s_1560_40 S) ?_
      refine And.intro H.1 ?_
      replace H := H.2
      intro M_21 e_M_21
      replace H := H M_21 e_M_21
      have S_M_21 : y_S n M_21 := by rw [e_M_21]; exact S_sai S
      have R_M_21 := rep_sai R (by decide) (by decide) e_M_21
      obtain ⟨r_M_21, h_M_21⟩ := q_gen R_M_21
      replace hF := hF.trans (q_ste h_M_21.2)
      replace R_M_21 := h_M_21.1
      try simp only [qf_1561 R_M_21] at H ⊢
      intro M_23 e_M_23
      replace H := H M_23 e_M_23
      have S_M_23 : y_S n M_23 := by rw [e_M_23]; exact S_sfi S_M_21
      have R_M_23 := rep_sfi R_M_21 e_M_23
      obtain ⟨r_M_23, h_M_23⟩ := q_gen R_M_23
      replace hF := hF.trans (q_ste h_M_23.2)
      replace R_M_23 := h_M_23.1
      replace H := z_nne (s_1629_40 S_M_23) H
      refine z_nn_of (s_1629_40 S_M_23) ?_
      refine And.intro H.1 ?_
      replace H := H.2
      refine And.intro H.1 ?_
      replace H := H.2
      try simp only [qa_106 R_M_23] at H ⊢
      intro M_28 e_M_28
      replace H := H M_28 e_M_28
      have S_M_28 : y_S n M_28 := by rw [e_M_28]; exact S_sai S_M_23
      have R_M_28 := rep_sai R_M_23 (by decide) (by decide) e_M_28
      obtain ⟨r_M_28, h_M_28⟩ := q_gen R_M_28
      replace hF := hF.trans (q_ste h_M_28.2)
      replace R_M_28 := h_M_28.1
      intro M_29 e_M_29
      replace H := H M_29 e_M_29
      have S_M_29 : y_S n M_29 := by rw [e_M_29]; exact S_sfi S_M_28
      have R_M_29 := rep_sfi R_M_28 e_M_29
      obtain ⟨r_M_29, h_M_29⟩ := q_gen R_M_29
      replace hF := hF.trans (q_ste h_M_29.2)
      replace R_M_29 := h_M_29.1
      intro M_30 e_M_30
      replace H := H M_30 e_M_30
      have S_M_30 : y_S n M_30 := by rw [e_M_30]; exact S_sfi S_M_29
      have R_M_30 := rep_sfi R_M_29 e_M_30
      obtain ⟨r_M_30, h_M_30⟩ := q_gen R_M_30
      replace hF := hF.trans (q_ste h_M_30.2)
      replace R_M_30 := h_M_30.1
      try simp only [qf_1575 R_M_30, qf_1561 R_M_30] at H ⊢
      refine qS_answers S_M_30 R_M_30 H (fun M_33 r_M_33 H S_M_33 R_M_33 u => ?_)
      replace hF := hF.trans (q_ste u.symm)
      exact K _ _ H S_M_33 R_M_33 (qUr_acknowledges_119 hF)
    · replace H := H.2 c1
      replace hF := hF.trans (if_neg c1)
      replace H := z_nne (s_1571_40 S) H
      refine z_nn_of (s_1571_40 S) ?_
      refine And.intro H.1 ?_
      replace H := H.2
      replace H := z_nne (s_1560_40 S) H
      refine z_nn_of (s_1560_40 S) ?_
      refine And.intro H.1 ?_
      replace H := H.2
      try simp only [qa_65 R] at H ⊢
      intro M_40 e_M_40
      replace H := H M_40 e_M_40
      have S_M_40 : y_S n M_40 := by rw [e_M_40]; exact S_sai S
      have R_M_40 := rep_sai R (by decide) (by decide) e_M_40
      obtain ⟨r_M_40, h_M_40⟩ := q_gen R_M_40
      replace hF := hF.trans (q_ste h_M_40.2)
      replace R_M_40 := h_M_40.1
      replace H := z_nne (s_1571_40 S_M_40) H
      refine z_nn_of (s_1571_40 S_M_40) ?_
      refine And.intro H.1 ?_
      replace H := H.2
      try simp only [qa_65 R_M_40] at H ⊢
      intro x_44 e_x_44
      replace H := H x_44 e_x_44
      replace hF := hF.trans (q_ste e_x_44)
      intro x_45 e_x_45
      replace H := H x_45 e_x_45
      replace hF := hF.trans (q_ste e_x_45)
      replace hF := qUl_acknowledges_119 hF
      exact ih S_M_40 R_M_40 H (fun M1 r1 q1 q2 q3 u => K M1 r1 q1 q2 q3 (hF.trans u))
set_option maxRecDepth 100000 in
noncomputable def qF_acknowledges_92 (x1 : Int32) (x2 : Int32) (r : q_R) : q_R := (q_st (ua r 61 (x1 : Int32).toNatClampNeg x2) (fun r1 => (q_st (ua r1 61 ((x1 + 9) : Int32).toNatClampNeg (r1.1 1576)) (fun r2 => (qF_acknowledges_119 x1 100 0 r2)))))
set_option maxRecDepth 100000 in
theorem qE_acknowledges_92 (x1 : Int32) (x2 : Int32) (r : q_R) : qF_acknowledges_92 x1 x2 r = (q_st (ua r 61 (x1 : Int32).toNatClampNeg x2) (fun r1 => (q_st (ua r1 61 ((x1 + 9) : Int32).toNatClampNeg (r1.1 1576)) (fun r2 => (qF_acknowledges_119 x1 100 0 r2))))) := rfl
set_option maxRecDepth 100000 in
set_option maxHeartbeats 4000000 in
theorem qS_acknowledges_92 {n : Nat} {Q Post : z_Mem → Prop} {x1 : Int32} {x2 : Int32} {M : z_Mem} {r : q_R} (S : y_S n M) (R : q_rep n M r) (H : P_X12_acknowledges_92 (n + 40) Q x1 x2 M) (K : ∀ M1 r1, Q M1 → y_S n M1 → q_rep n M1 r1 → qF_acknowledges_92 x1 x2 r = r1 → Post M1) : P_X12_acknowledges_92 (n + 40) Post x1 x2 M := by
  have hF := qE_acknowledges_92 x1 x2 r
  unfold P_X12_acknowledges_92 at H ⊢
  replace H := z_nne (s_1560_40 S) H
  refine z_nn_of (s_1560_40 S) ?_
  refine And.intro H.1 ?_
  replace H := H.2
  intro M_49 e_M_49
  replace H := H M_49 e_M_49
  have S_M_49 : y_S n M_49 := by rw [e_M_49]; exact S_sai S
  have R_M_49 := rep_sai R (by decide) (by decide) e_M_49
  obtain ⟨r_M_49, h_M_49⟩ := q_gen R_M_49
  replace hF := hF.trans (q_ste h_M_49.2)
  replace R_M_49 := h_M_49.1
  replace H := z_nne (s_1560_40 S_M_49) H
  refine z_nn_of (s_1560_40 S_M_49) ?_
  refine And.intro H.1 ?_
  replace H := H.2
  try simp only [qf_1576 R_M_49] at H ⊢
  intro M_54 e_M_54
  replace H := H M_54 e_M_54
  have S_M_54 : y_S n M_54 := by rw [e_M_54]; exact S_sai S_M_49
  have R_M_54 := rep_sai R_M_49 (by decide) (by decide) e_M_54
  obtain ⟨r_M_54, h_M_54⟩ := q_gen R_M_54
  replace hF := hF.trans (q_ste h_M_54.2)
  replace R_M_54 := h_M_54.1
  obtain ⟨m, H⟩ := H
  refine ⟨m, ?_⟩
  exact qS_acknowledges_119 m S_M_54 R_M_54 H (fun M1 r1 q1 q2 q3 u => K M1 r1 q1 q2 q3 (hF.trans u))
set_option maxRecDepth 100000 in
noncomputable def qB_acknowledges_14 (x1 : Int32) (x2 : Int32) (x3 : Int32) (r : q_R) : (Int32 × Int32 × Int32 × q_R) ⊕ q_R := (if (x3 < 0) then (.inr (qF_acknowledges_92 x1 x2 r)) else (if (4 ≤ x2) then (.inr (qF_acknowledges_92 x1 x2 r)) else (if ((r.2 63 (x3 : Int32).toNatClampNeg) = 0) then (qF_acknowledges_86 x1 x2 x3 r) else (qF_acknowledges_35 x1 x2 x3 x3 r))))
set_option maxRecDepth 100000 in
noncomputable def qF_acknowledges_14 (x1 : Int32) (x2 : Int32) (x3 : Int32) (r : q_R) : q_R := q_lp (X := (Int32 × Int32 × Int32 × q_R)) (Y := q_R) r (fun t => qB_acknowledges_14 t.1 t.2.1 t.2.2.1 t.2.2.2) (x1, x2, x3, r)
set_option maxRecDepth 100000 in
theorem qUl_acknowledges_14 {x1 : Int32} {x2 : Int32} {x3 : Int32} {r : q_R} {y_x1 : Int32} {y_x2 : Int32} {y_x3 : Int32} {r1 : q_R} (h : qB_acknowledges_14 x1 x2 x3 r = .inl (y_x1, y_x2, y_x3, r1)) : qF_acknowledges_14 x1 x2 x3 r = qF_acknowledges_14 y_x1 y_x2 y_x3 r1 := q_lpl (step := fun t => qB_acknowledges_14 t.1 t.2.1 t.2.2.1 t.2.2.2) h
set_option maxRecDepth 100000 in
theorem qUr_acknowledges_14 {x1 : Int32} {x2 : Int32} {x3 : Int32} {r : q_R} {y : q_R} (h : qB_acknowledges_14 x1 x2 x3 r = .inr y) : qF_acknowledges_14 x1 x2 x3 r = y := q_lpr (step := fun t => qB_acknowledges_14 t.1 t.2.1 t.2.2.1 t.2.2.2) h
set_option maxRecDepth 100000 in
theorem qE_acknowledges_14 (x1 : Int32) (x2 : Int32) (x3 : Int32) (r : q_R) : qB_acknowledges_14 x1 x2 x3 r = (if (x3 < 0) then (.inr (qF_acknowledges_92 x1 x2 r)) else (if (4 ≤ x2) then (.inr (qF_acknowledges_92 x1 x2 r)) else (if ((r.2 63 (x3 : Int32).toNatClampNeg) = 0) then (qF_acknowledges_86 x1 x2 x3 r) else (qF_acknowledges_35 x1 x2 x3 x3 r)))) := rfl
set_option maxRecDepth 100000 in
set_option maxHeartbeats 4000000 in
theorem qS_acknowledges_14 {n : Nat} {Q Post : z_Mem → Prop} : ∀ (m : Nat) {x1 : Int32} {x2 : Int32} {x3 : Int32} {M : z_Mem} {r : q_R} (S : y_S n M) (R : q_rep n M r) (H : P_X12_acknowledges_14 (n + 40) Q m x1 x2 x3 M) (K : ∀ M1 r1, Q M1 → y_S n M1 → q_rep n M1 r1 → qF_acknowledges_14 x1 x2 x3 r = r1 → Post M1), P_X12_acknowledges_14 (n + 40) Post m x1 x2 x3 M := by
  intro m
  induction m with
  | zero => intros; rename_i H _; exact False.elim H
  | succ m ih =>
    intro x1 x2 x3 M r S R H K
    have hF := qE_acknowledges_14 x1 x2 x3 r
    unfold P_X12_acknowledges_14 at H ⊢
    refine And.intro (fun c1 => ?_) (fun c1 => ?_)
    · replace H := H.1 c1
      replace hF := hF.trans (if_pos c1)
      exact qS_acknowledges_92 S R H (fun M1 r1 q1 q2 q3 u => K M1 r1 q1 q2 q3 (qUr_acknowledges_14 (hF.trans (congrArg Sum.inr u))))
    · replace H := H.2 c1
      replace hF := hF.trans (if_neg c1)
      refine And.intro (fun c2 => ?_) (fun c2 => ?_)
      · replace H := H.1 c2
        replace hF := hF.trans (if_pos c2)
        exact qS_acknowledges_92 S R H (fun M1 r1 q1 q2 q3 u => K M1 r1 q1 q2 q3 (qUr_acknowledges_14 (hF.trans (congrArg Sum.inr u))))
      · replace H := H.2 c2
        replace hF := hF.trans (if_neg c2)
        replace H := z_nne (s_1569_40 S) H
        refine z_nn_of (s_1569_40 S) ?_
        refine And.intro H.1 ?_
        replace H := H.2
        try simp only [qa_63 R] at H ⊢
        refine And.intro (fun c3 => ?_) (fun c3 => ?_)
        · replace H := H.1 c3
          replace hF := hF.trans (if_pos c3)
          exact qS_acknowledges_86 S R H (fun M1 r1 q1 q2 q3 u => K M1 r1 q1 q2 q3 (qUr_acknowledges_14 (hF.trans u))) (fun v0 v1 v2 M1 r1 q1 q2 q3 u => ih q2 q3 q1 (fun M1 r1 q1 q2 q3 u2 => K M1 r1 q1 q2 q3 ((qUl_acknowledges_14 (hF.trans u)).trans u2))) 
        · replace H := H.2 c3
          replace hF := hF.trans (if_neg c3)
          obtain ⟨m, H⟩ := H
          refine ⟨m, ?_⟩
          exact qS_acknowledges_35 m S R H (fun M1 r1 q1 q2 q3 u => K M1 r1 q1 q2 q3 (qUr_acknowledges_14 (hF.trans u))) (fun v0 v1 v2 M1 r1 q1 q2 q3 u => ih q2 q3 q1 (fun M1 r1 q1 q2 q3 u2 => K M1 r1 q1 q2 q3 ((qUl_acknowledges_14 (hF.trans u)).trans u2))) 
set_option maxRecDepth 100000 in
noncomputable def qF_acknowledges (r : q_R) : q_R := (q_st (15 * (r.1 1561)) (fun (x_64 : Int32) => (qF_acknowledges_14 x_64 0 399 r)))
set_option maxRecDepth 100000 in
theorem qE_acknowledges (r : q_R) : qF_acknowledges r = (q_st (15 * (r.1 1561)) (fun (x_64 : Int32) => (qF_acknowledges_14 x_64 0 399 r))) := rfl
set_option maxRecDepth 100000 in
set_option maxHeartbeats 4000000 in
theorem qS_acknowledges {n : Nat} {Q Post : z_Mem → Prop} {M : z_Mem} {r : q_R} (S : y_S n M) (R : q_rep n M r) (H : P_X12_acknowledges (n + 40) M Q) (K : ∀ M1 r1, Q M1 → y_S n M1 → q_rep n M1 r1 → qF_acknowledges r = r1 → Post M1) : P_X12_acknowledges (n + 40) M Post := by
  have hF := qE_acknowledges r
  unfold P_X12_acknowledges at H ⊢
  try simp only [qf_1561 R] at H ⊢
  intro x_64 e_x_64
  replace H := H x_64 e_x_64
  replace hF := hF.trans (q_ste e_x_64)
  obtain ⟨m, H⟩ := H
  refine ⟨m, ?_⟩
  exact qS_acknowledges_14 m S R H (fun M1 r1 q1 q2 q3 u => K M1 r1 q1 q2 q3 (hF.trans u))
set_option maxRecDepth 100000 in
noncomputable def qF_isByKey (p1 : Int32) (r : q_R) : (Int32 × q_R) := (if (p1 = (r.1 1566)) then (1, r) else (if (p1 = (r.1 1567)) then (if (8 ≤ ((r.1 1536) - (r.1 1568))) then (0, r) else (1, r)) else (0, r)))
set_option maxRecDepth 100000 in
theorem qE_isByKey (p1 : Int32) (r : q_R) : qF_isByKey p1 r = (if (p1 = (r.1 1566)) then (1, r) else (if (p1 = (r.1 1567)) then (if (8 ≤ ((r.1 1536) - (r.1 1568))) then (0, r) else (1, r)) else (0, r))) := rfl
set_option maxRecDepth 100000 in
set_option maxHeartbeats 4000000 in
theorem qS_isByKey {n : Nat} {Q Post : Int32 → z_Mem → Prop} {p1 : Int32} {M : z_Mem} {r : q_R} (S : y_S n M) (R : q_rep n M r) (H : P_X12_isByKey (n + 40) p1 M Q) (K : ∀ x M1 r1, Q x M1 → y_S n M1 → q_rep n M1 r1 → qF_isByKey p1 r = (x, r1) → Post x M1) : P_X12_isByKey (n + 40) p1 M Post := by
  have hF := qE_isByKey p1 r
  unfold P_X12_isByKey at H ⊢
  try simp only [qf_1566 R] at H ⊢
  refine And.intro (fun c1 => ?_) (fun c1 => ?_)
  · replace H := H.1 c1
    replace hF := hF.trans (if_pos c1)
    exact K _ _ _ H S R hF
  · replace H := H.2 c1
    replace hF := hF.trans (if_neg c1)
    try simp only [qf_1567 R] at H ⊢
    refine And.intro (fun c2 => ?_) (fun c2 => ?_)
    · replace H := H.1 c2
      replace hF := hF.trans (if_pos c2)
      try simp only [qf_1536 R, qf_1568 R] at H ⊢
      refine And.intro (fun c3 => ?_) (fun c3 => ?_)
      · replace H := H.1 c3
        replace hF := hF.trans (if_pos c3)
        exact K _ _ _ H S R hF
      · replace H := H.2 c3
        replace hF := hF.trans (if_neg c3)
        exact K _ _ _ H S R hF
    · replace H := H.2 c2
      replace hF := hF.trans (if_neg c2)
      exact K _ _ _ H S R hF
set_option maxRecDepth 100000 in
noncomputable def qF_takes_194 (x1 : Int32) (t0 : Int32) (r : q_R) : q_R := (q_st2 (qF_max (r.1 1572) x1 r) (fun (x_2 : Int32) r1 => (q_st (uf r1 1572 x_2) (fun r2 => (q_st (uf r2 1573 ((r2.1 1573) + 1)) (fun r3 => (if ((r3.2 79 (x1 : Int32).toNatClampNeg) = 0) then (if (t0 = 0) then (q_st (qF_acknowledges r3) (fun r4 => r4)) else (if ((r3.1 1573) = 2) then (q_st (qF_acknowledges r3) (fun r5 => r5)) else (q_st (uf r3 1574 ((r3.1 1536) + 3)) (fun r6 => r6)))) else (q_st (qF_acknowledges r3) (fun r7 => r7)))))))))
set_option maxRecDepth 100000 in
theorem qE_takes_194 (x1 : Int32) (t0 : Int32) (r : q_R) : qF_takes_194 x1 t0 r = (q_st2 (qF_max (r.1 1572) x1 r) (fun (x_2 : Int32) r1 => (q_st (uf r1 1572 x_2) (fun r2 => (q_st (uf r2 1573 ((r2.1 1573) + 1)) (fun r3 => (if ((r3.2 79 (x1 : Int32).toNatClampNeg) = 0) then (if (t0 = 0) then (q_st (qF_acknowledges r3) (fun r4 => r4)) else (if ((r3.1 1573) = 2) then (q_st (qF_acknowledges r3) (fun r5 => r5)) else (q_st (uf r3 1574 ((r3.1 1536) + 3)) (fun r6 => r6)))) else (q_st (qF_acknowledges r3) (fun r7 => r7))))))))) := rfl
set_option maxRecDepth 100000 in
set_option maxHeartbeats 4000000 in
theorem qS_takes_194 {n : Nat} {Q Post : z_Mem → Prop} {x1 : Int32} {t0 : Int32} {M : z_Mem} {r : q_R} (S : y_S n M) (R : q_rep n M r) (H : P_X12_takes_194 (n + 40) Q x1 t0 M) (K : ∀ M1 r1, Q M1 → y_S n M1 → q_rep n M1 r1 → qF_takes_194 x1 t0 r = r1 → Post M1) : P_X12_takes_194 (n + 40) Post x1 t0 M := by
  have hF := qE_takes_194 x1 t0 r
  unfold P_X12_takes_194 at H ⊢
  try simp only [qf_1572 R] at H ⊢
  refine qS_max S R H (fun x_2 M_2 r_M_2 H S_M_2 R_M_2 u => ?_)
  replace hF := hF.trans (q_ste2 u)
  intro M_3 e_M_3
  replace H := H M_3 e_M_3
  have S_M_3 : y_S n M_3 := by rw [e_M_3]; exact S_sfi S_M_2
  have R_M_3 := rep_sfi R_M_2 e_M_3
  obtain ⟨r_M_3, h_M_3⟩ := q_gen R_M_3
  replace hF := hF.trans (q_ste h_M_3.2)
  replace R_M_3 := h_M_3.1
  try simp only [qf_1573 R_M_3] at H ⊢
  intro M_5 e_M_5
  replace H := H M_5 e_M_5
  have S_M_5 : y_S n M_5 := by rw [e_M_5]; exact S_sfi S_M_3
  have R_M_5 := rep_sfi R_M_3 e_M_5
  obtain ⟨r_M_5, h_M_5⟩ := q_gen R_M_5
  replace hF := hF.trans (q_ste h_M_5.2)
  replace R_M_5 := h_M_5.1
  replace H := z_nne (s_1601_40 S_M_5) H
  refine z_nn_of (s_1601_40 S_M_5) ?_
  refine And.intro H.1 ?_
  replace H := H.2
  try simp only [qa_79 R_M_5] at H ⊢
  refine And.intro (fun c1 => ?_) (fun c1 => ?_)
  · replace H := H.1 c1
    replace hF := hF.trans (if_pos c1)
    refine And.intro (fun c2 => ?_) (fun c2 => ?_)
    · replace H := H.1 c2
      replace hF := hF.trans (if_pos c2)
      refine qS_acknowledges S_M_5 R_M_5 H (fun M_12 r_M_12 H S_M_12 R_M_12 u => ?_)
      replace hF := hF.trans (q_ste u.symm)
      exact K _ _ H S_M_12 R_M_12 hF
    · replace H := H.2 c2
      replace hF := hF.trans (if_neg c2)
      try simp only [qf_1573 R_M_5] at H ⊢
      refine And.intro (fun c3 => ?_) (fun c3 => ?_)
      · replace H := H.1 c3
        replace hF := hF.trans (if_pos c3)
        refine qS_acknowledges S_M_5 R_M_5 H (fun M_17 r_M_17 H S_M_17 R_M_17 u => ?_)
        replace hF := hF.trans (q_ste u.symm)
        exact K _ _ H S_M_17 R_M_17 hF
      · replace H := H.2 c3
        replace hF := hF.trans (if_neg c3)
        try simp only [qf_1536 R_M_5] at H ⊢
        intro M_16 e_M_16
        replace H := H M_16 e_M_16
        have S_M_16 : y_S n M_16 := by rw [e_M_16]; exact S_sfi S_M_5
        have R_M_16 := rep_sfi R_M_5 e_M_16
        obtain ⟨r_M_16, h_M_16⟩ := q_gen R_M_16
        replace hF := hF.trans (q_ste h_M_16.2)
        replace R_M_16 := h_M_16.1
        exact K _ _ H S_M_16 R_M_16 hF
  · replace H := H.2 c1
    replace hF := hF.trans (if_neg c1)
    refine qS_acknowledges S_M_5 R_M_5 H (fun M_10 r_M_10 H S_M_10 R_M_10 u => ?_)
    replace hF := hF.trans (q_ste u.symm)
    exact K _ _ H S_M_10 R_M_10 hF
set_option maxRecDepth 100000 in
noncomputable def qB_takes_138 (x1 : Int32) (x2 : Int32) (r : q_R) : (Int32 × Int32 × q_R) ⊕ q_R := (if ((r.2 75 (x1 : Int32).toNatClampNeg) ≤ x2) then (if (x1 = ((r.1 1572) + 1)) then (.inr (qF_takes_194 x1 1 r)) else (.inr (qF_takes_194 x1 0 r))) else (q_st (ua r 64 ((((200 * (r.2 73 (x1 : Int32).toNatClampNeg)) + (r.2 74 (x1 : Int32).toNatClampNeg)) + x2) : Int32).toNatClampNeg 1) (fun r1 => (q_st (x2 + 1) (fun (x_34 : Int32) => (.inl (x1, x_34, r1)))))))
set_option maxRecDepth 100000 in
noncomputable def qF_takes_138 (x1 : Int32) (x2 : Int32) (r : q_R) : q_R := q_lp (X := (Int32 × Int32 × q_R)) (Y := q_R) r (fun t => qB_takes_138 t.1 t.2.1 t.2.2) (x1, x2, r)
set_option maxRecDepth 100000 in
theorem qUl_takes_138 {x1 : Int32} {x2 : Int32} {r : q_R} {y_x1 : Int32} {y_x2 : Int32} {r1 : q_R} (h : qB_takes_138 x1 x2 r = .inl (y_x1, y_x2, r1)) : qF_takes_138 x1 x2 r = qF_takes_138 y_x1 y_x2 r1 := q_lpl (step := fun t => qB_takes_138 t.1 t.2.1 t.2.2) h
set_option maxRecDepth 100000 in
theorem qUr_takes_138 {x1 : Int32} {x2 : Int32} {r : q_R} {y : q_R} (h : qB_takes_138 x1 x2 r = .inr y) : qF_takes_138 x1 x2 r = y := q_lpr (step := fun t => qB_takes_138 t.1 t.2.1 t.2.2) h
set_option maxRecDepth 100000 in
theorem qE_takes_138 (x1 : Int32) (x2 : Int32) (r : q_R) : qB_takes_138 x1 x2 r = (if ((r.2 75 (x1 : Int32).toNatClampNeg) ≤ x2) then (if (x1 = ((r.1 1572) + 1)) then (.inr (qF_takes_194 x1 1 r)) else (.inr (qF_takes_194 x1 0 r))) else (q_st (ua r 64 ((((200 * (r.2 73 (x1 : Int32).toNatClampNeg)) + (r.2 74 (x1 : Int32).toNatClampNeg)) + x2) : Int32).toNatClampNeg 1) (fun r1 => (q_st (x2 + 1) (fun (x_34 : Int32) => (.inl (x1, x_34, r1))))))) := rfl
set_option maxRecDepth 100000 in
set_option maxHeartbeats 4000000 in
theorem qS_takes_138 {n : Nat} {Q Post : z_Mem → Prop} : ∀ (m : Nat) {x1 : Int32} {x2 : Int32} {M : z_Mem} {r : q_R} (S : y_S n M) (R : q_rep n M r) (H : P_X12_takes_138 (n + 40) Q m x1 x2 M) (K : ∀ M1 r1, Q M1 → y_S n M1 → q_rep n M1 r1 → qF_takes_138 x1 x2 r = r1 → Post M1), P_X12_takes_138 (n + 40) Post m x1 x2 M := by
  intro m
  induction m with
  | zero => intros; rename_i H _; exact False.elim H
  | succ m ih =>
    intro x1 x2 M r S R H K
    have hF := qE_takes_138 x1 x2 r
    unfold P_X12_takes_138 at H ⊢
    replace H := z_nne (s_1597_40 S) H
    refine z_nn_of (s_1597_40 S) ?_
    refine And.intro H.1 ?_
    replace H := H.2
    try simp only [qa_75 R] at H ⊢
    refine And.intro (fun c1 => ?_) (fun c1 => ?_)
    · replace H := H.1 c1
      replace hF := hF.trans (if_pos c1)
      try simp only [qf_1572 R] at H ⊢
      refine And.intro (fun c2 => ?_) (fun c2 => ?_)
      · replace H := H.1 c2
        replace hF := hF.trans (if_pos c2)
        exact qS_takes_194 S R H (fun M1 r1 q1 q2 q3 u => K M1 r1 q1 q2 q3 (qUr_takes_138 (hF.trans (congrArg Sum.inr u))))
      · replace H := H.2 c2
        replace hF := hF.trans (if_neg c2)
        exact qS_takes_194 S R H (fun M1 r1 q1 q2 q3 u => K M1 r1 q1 q2 q3 (qUr_takes_138 (hF.trans (congrArg Sum.inr u))))
    · replace H := H.2 c1
      replace hF := hF.trans (if_neg c1)
      replace H := z_nne (s_1595_40 S) H
      refine z_nn_of (s_1595_40 S) ?_
      refine And.intro H.1 ?_
      replace H := H.2
      replace H := z_nne (s_1596_40 S) H
      refine z_nn_of (s_1596_40 S) ?_
      refine And.intro H.1 ?_
      replace H := H.2
      replace H := z_nne (s_1570_40 S) H
      refine z_nn_of (s_1570_40 S) ?_
      refine And.intro H.1 ?_
      replace H := H.2
      try simp only [qa_73 R, qa_74 R] at H ⊢
      intro M_33 e_M_33
      replace H := H M_33 e_M_33
      have S_M_33 : y_S n M_33 := by rw [e_M_33]; exact S_sai S
      have R_M_33 := rep_sai R (by decide) (by decide) e_M_33
      obtain ⟨r_M_33, h_M_33⟩ := q_gen R_M_33
      replace hF := hF.trans (q_ste h_M_33.2)
      replace R_M_33 := h_M_33.1
      intro x_34 e_x_34
      replace H := H x_34 e_x_34
      replace hF := hF.trans (q_ste e_x_34)
      replace hF := qUl_takes_138 hF
      exact ih S_M_33 R_M_33 H (fun M1 r1 q1 q2 q3 u => K M1 r1 q1 q2 q3 (hF.trans u))
set_option maxRecDepth 100000 in
noncomputable def qF_takes_132 (x1 : Int32) (t1 : Int32) (t2 : Int32) (r : q_R) : q_R := (q_st (uf r 1576 (t1 + t2)) (fun r1 => (qF_takes_138 x1 0 r1)))
set_option maxRecDepth 100000 in
theorem qE_takes_132 (x1 : Int32) (t1 : Int32) (t2 : Int32) (r : q_R) : qF_takes_132 x1 t1 t2 r = (q_st (uf r 1576 (t1 + t2)) (fun r1 => (qF_takes_138 x1 0 r1))) := rfl
set_option maxRecDepth 100000 in
set_option maxHeartbeats 4000000 in
theorem qS_takes_132 {n : Nat} {Q Post : z_Mem → Prop} {x1 : Int32} {t1 : Int32} {t2 : Int32} {o_t0 : Option Nat} {M : z_Mem} {r : q_R} (ho_t0 : o_t0 = some (n + 40)) (S : y_S n M) (R : q_rep n M r) (H : P_X12_takes_132 (n + 40) Q x1 o_t0 t1 t2 M) (K : ∀ M1 r1, Q M1 → y_S n M1 → q_rep n M1 r1 → qF_takes_132 x1 t1 t2 r = r1 → Post M1) : P_X12_takes_132 (n + 40) Post x1 o_t0 t1 t2 M := by
  subst ho_t0
  have hF := qE_takes_132 x1 t1 t2 r
  unfold P_X12_takes_132 at H ⊢
  replace H := z_nne rfl H
  refine z_nn_of rfl ?_
  intro M_36 e_M_36
  replace H := H M_36 e_M_36
  have S_M_36 : y_S n M_36 := by rw [e_M_36]; exact S_sfi S
  have R_M_36 := rep_sfi R e_M_36
  obtain ⟨r_M_36, h_M_36⟩ := q_gen R_M_36
  replace hF := hF.trans (q_ste h_M_36.2)
  replace R_M_36 := h_M_36.1
  obtain ⟨m, H⟩ := H
  refine ⟨m, ?_⟩
  exact qS_takes_138 m S_M_36 R_M_36 H (fun M1 r1 q1 q2 q3 u => K M1 r1 q1 q2 q3 (hF.trans u))
set_option maxRecDepth 100000 in
noncomputable def qF_takes_99 (x1 : Int32) (r : q_R) : q_R := (q_st (ua r 77 (x1 : Int32).toNatClampNeg 1) (fun r1 => (q_st (ua r1 63 (x1 : Int32).toNatClampNeg 1) (fun r2 => (if ((r2.2 81 (x1 : Int32).toNatClampNeg) = 0) then (qF_takes_132 x1 (r2.1 1576) 0 r2) else (qF_takes_132 x1 (r2.1 1576) 1 r2))))))
set_option maxRecDepth 100000 in
theorem qE_takes_99 (x1 : Int32) (r : q_R) : qF_takes_99 x1 r = (q_st (ua r 77 (x1 : Int32).toNatClampNeg 1) (fun r1 => (q_st (ua r1 63 (x1 : Int32).toNatClampNeg 1) (fun r2 => (if ((r2.2 81 (x1 : Int32).toNatClampNeg) = 0) then (qF_takes_132 x1 (r2.1 1576) 0 r2) else (qF_takes_132 x1 (r2.1 1576) 1 r2)))))) := rfl
set_option maxRecDepth 100000 in
set_option maxHeartbeats 4000000 in
theorem qS_takes_99 {n : Nat} {Q Post : z_Mem → Prop} {x1 : Int32} {M : z_Mem} {r : q_R} (S : y_S n M) (R : q_rep n M r) (H : P_X12_takes_99 (n + 40) Q x1 M) (K : ∀ M1 r1, Q M1 → y_S n M1 → q_rep n M1 r1 → qF_takes_99 x1 r = r1 → Post M1) : P_X12_takes_99 (n + 40) Post x1 M := by
  have hF := qE_takes_99 x1 r
  unfold P_X12_takes_99 at H ⊢
  replace H := z_nne (s_1599_40 S) H
  refine z_nn_of (s_1599_40 S) ?_
  refine And.intro H.1 ?_
  replace H := H.2
  intro M_41 e_M_41
  replace H := H M_41 e_M_41
  have S_M_41 : y_S n M_41 := by rw [e_M_41]; exact S_sai S
  have R_M_41 := rep_sai R (by decide) (by decide) e_M_41
  obtain ⟨r_M_41, h_M_41⟩ := q_gen R_M_41
  replace hF := hF.trans (q_ste h_M_41.2)
  replace R_M_41 := h_M_41.1
  replace H := z_nne (s_1569_40 S_M_41) H
  refine z_nn_of (s_1569_40 S_M_41) ?_
  refine And.intro H.1 ?_
  replace H := H.2
  intro M_45 e_M_45
  replace H := H M_45 e_M_45
  have S_M_45 : y_S n M_45 := by rw [e_M_45]; exact S_sai S_M_41
  have R_M_45 := rep_sai R_M_41 (by decide) (by decide) e_M_45
  obtain ⟨r_M_45, h_M_45⟩ := q_gen R_M_45
  replace hF := hF.trans (q_ste h_M_45.2)
  replace R_M_45 := h_M_45.1
  replace H := z_nne (s_1603_40 S_M_45) H
  refine z_nn_of (s_1603_40 S_M_45) ?_
  refine And.intro H.1 ?_
  replace H := H.2
  try simp only [qa_81 R_M_45] at H ⊢
  refine And.intro (fun c1 => ?_) (fun c1 => ?_)
  · replace H := H.1 c1
    replace hF := hF.trans (if_pos c1)
    try simp only [qf_1576 R_M_45] at H ⊢
    exact qS_takes_132 rfl S_M_45 R_M_45 H (fun M1 r1 q1 q2 q3 u => K M1 r1 q1 q2 q3 (hF.trans u))
  · replace H := H.2 c1
    replace hF := hF.trans (if_neg c1)
    try simp only [qf_1576 R_M_45] at H ⊢
    exact qS_takes_132 rfl S_M_45 R_M_45 H (fun M1 r1 q1 q2 q3 u => K M1 r1 q1 q2 q3 (hF.trans u))
set_option maxRecDepth 100000 in
noncomputable def qF_takes_43 (x1 : Int32) (r : q_R) : q_R := (if ((r.2 78 (x1 : Int32).toNatClampNeg) ≤ (r.1 1566)) then (q_st2 (qF_isByKey (r.2 78 (x1 : Int32).toNatClampNeg) r) (fun (x_59 : Int32) r1 => (if (x_59 = 0) then r1 else (qF_takes_99 x1 r1)))) else (q_st (uf r 1567 (r.1 1566)) (fun r2 => (q_st (uf r2 1566 (r2.2 78 (x1 : Int32).toNatClampNeg)) (fun r3 => (q_st (uf r3 1568 (r3.1 1536)) (fun r4 => (qF_takes_99 x1 r4))))))))
set_option maxRecDepth 100000 in
theorem qE_takes_43 (x1 : Int32) (r : q_R) : qF_takes_43 x1 r = (if ((r.2 78 (x1 : Int32).toNatClampNeg) ≤ (r.1 1566)) then (q_st2 (qF_isByKey (r.2 78 (x1 : Int32).toNatClampNeg) r) (fun (x_59 : Int32) r1 => (if (x_59 = 0) then r1 else (qF_takes_99 x1 r1)))) else (q_st (uf r 1567 (r.1 1566)) (fun r2 => (q_st (uf r2 1566 (r2.2 78 (x1 : Int32).toNatClampNeg)) (fun r3 => (q_st (uf r3 1568 (r3.1 1536)) (fun r4 => (qF_takes_99 x1 r4)))))))) := rfl
set_option maxRecDepth 100000 in
set_option maxHeartbeats 4000000 in
theorem qS_takes_43 {n : Nat} {Q Post : z_Mem → Prop} {x1 : Int32} {M : z_Mem} {r : q_R} (S : y_S n M) (R : q_rep n M r) (H : P_X12_takes_43 (n + 40) Q x1 M) (K : ∀ M1 r1, Q M1 → y_S n M1 → q_rep n M1 r1 → qF_takes_43 x1 r = r1 → Post M1) : P_X12_takes_43 (n + 40) Post x1 M := by
  have hF := qE_takes_43 x1 r
  unfold P_X12_takes_43 at H ⊢
  replace H := z_nne (s_1600_40 S) H
  refine z_nn_of (s_1600_40 S) ?_
  refine And.intro H.1 ?_
  replace H := H.2
  try simp only [qa_78 R, qf_1566 R] at H ⊢
  refine And.intro (fun c1 => ?_) (fun c1 => ?_)
  · replace H := H.1 c1
    replace hF := hF.trans (if_pos c1)
    replace H := z_nne (s_1600_40 S) H
    refine z_nn_of (s_1600_40 S) ?_
    refine And.intro H.1 ?_
    replace H := H.2
    try simp only [qa_78 R] at H ⊢
    refine qS_isByKey S R H (fun x_59 M_59 r_M_59 H S_M_59 R_M_59 u => ?_)
    replace hF := hF.trans (q_ste2 u)
    refine And.intro (fun c2 => ?_) (fun c2 => ?_)
    · replace H := H.1 c2
      replace hF := hF.trans (if_pos c2)
      exact K _ _ H S_M_59 R_M_59 hF
    · replace H := H.2 c2
      replace hF := hF.trans (if_neg c2)
      exact qS_takes_99 S_M_59 R_M_59 H (fun M1 r1 q1 q2 q3 u => K M1 r1 q1 q2 q3 (hF.trans u))
  · replace H := H.2 c1
    replace hF := hF.trans (if_neg c1)
    try simp only [qf_1566 R] at H ⊢
    intro M_62 e_M_62
    replace H := H M_62 e_M_62
    have S_M_62 : y_S n M_62 := by rw [e_M_62]; exact S_sfi S
    have R_M_62 := rep_sfi R e_M_62
    obtain ⟨r_M_62, h_M_62⟩ := q_gen R_M_62
    replace hF := hF.trans (q_ste h_M_62.2)
    replace R_M_62 := h_M_62.1
    replace H := z_nne (s_1600_40 S_M_62) H
    refine z_nn_of (s_1600_40 S_M_62) ?_
    refine And.intro H.1 ?_
    replace H := H.2
    try simp only [qa_78 R_M_62] at H ⊢
    intro M_66 e_M_66
    replace H := H M_66 e_M_66
    have S_M_66 : y_S n M_66 := by rw [e_M_66]; exact S_sfi S_M_62
    have R_M_66 := rep_sfi R_M_62 e_M_66
    obtain ⟨r_M_66, h_M_66⟩ := q_gen R_M_66
    replace hF := hF.trans (q_ste h_M_66.2)
    replace R_M_66 := h_M_66.1
    try simp only [qf_1536 R_M_66] at H ⊢
    intro M_68 e_M_68
    replace H := H M_68 e_M_68
    have S_M_68 : y_S n M_68 := by rw [e_M_68]; exact S_sfi S_M_66
    have R_M_68 := rep_sfi R_M_66 e_M_68
    obtain ⟨r_M_68, h_M_68⟩ := q_gen R_M_68
    replace hF := hF.trans (q_ste h_M_68.2)
    replace R_M_68 := h_M_68.1
    exact qS_takes_99 S_M_68 R_M_68 H (fun M1 r1 q1 q2 q3 u => K M1 r1 q1 q2 q3 (hF.trans u))
set_option maxRecDepth 100000 in
noncomputable def qF_takes (p1 : Int32) (r : q_R) : q_R := (q_st (ua r 77 (p1 : Int32).toNatClampNeg 2) (fun r1 => (if ((r1.1 1562) = 1) then (q_st (uf r1 1575 (r1.2 71 (p1 : Int32).toNatClampNeg)) (fun r2 => (if ((r2.2 80 (p1 : Int32).toNatClampNeg) = 0) then (qF_takes_43 p1 r2) else (if ((r2.1 1564) = 0) then r2 else (qF_takes_43 p1 r2))))) else r1)))
set_option maxRecDepth 100000 in
theorem qE_takes (p1 : Int32) (r : q_R) : qF_takes p1 r = (q_st (ua r 77 (p1 : Int32).toNatClampNeg 2) (fun r1 => (if ((r1.1 1562) = 1) then (q_st (uf r1 1575 (r1.2 71 (p1 : Int32).toNatClampNeg)) (fun r2 => (if ((r2.2 80 (p1 : Int32).toNatClampNeg) = 0) then (qF_takes_43 p1 r2) else (if ((r2.1 1564) = 0) then r2 else (qF_takes_43 p1 r2))))) else r1))) := rfl
set_option maxRecDepth 100000 in
set_option maxHeartbeats 4000000 in
theorem qS_takes {n : Nat} {Q Post : z_Mem → Prop} {p1 : Int32} {M : z_Mem} {r : q_R} (S : y_S n M) (R : q_rep n M r) (H : P_X12_takes (n + 40) p1 M Q) (K : ∀ M1 r1, Q M1 → y_S n M1 → q_rep n M1 r1 → qF_takes p1 r = r1 → Post M1) : P_X12_takes (n + 40) p1 M Post := by
  have hF := qE_takes p1 r
  unfold P_X12_takes at H ⊢
  replace H := z_nne (s_1599_40 S) H
  refine z_nn_of (s_1599_40 S) ?_
  refine And.intro H.1 ?_
  replace H := H.2
  intro M_72 e_M_72
  replace H := H M_72 e_M_72
  have S_M_72 : y_S n M_72 := by rw [e_M_72]; exact S_sai S
  have R_M_72 := rep_sai R (by decide) (by decide) e_M_72
  obtain ⟨r_M_72, h_M_72⟩ := q_gen R_M_72
  replace hF := hF.trans (q_ste h_M_72.2)
  replace R_M_72 := h_M_72.1
  try simp only [qf_1562 R_M_72] at H ⊢
  refine And.intro (fun c1 => ?_) (fun c1 => ?_)
  · replace H := H.1 c1
    replace hF := hF.trans (if_pos c1)
    replace H := z_nne (s_1593_40 S_M_72) H
    refine z_nn_of (s_1593_40 S_M_72) ?_
    refine And.intro H.1 ?_
    replace H := H.2
    try simp only [qa_71 R_M_72] at H ⊢
    intro M_78 e_M_78
    replace H := H M_78 e_M_78
    have S_M_78 : y_S n M_78 := by rw [e_M_78]; exact S_sfi S_M_72
    have R_M_78 := rep_sfi R_M_72 e_M_78
    obtain ⟨r_M_78, h_M_78⟩ := q_gen R_M_78
    replace hF := hF.trans (q_ste h_M_78.2)
    replace R_M_78 := h_M_78.1
    replace H := z_nne (s_1602_40 S_M_78) H
    refine z_nn_of (s_1602_40 S_M_78) ?_
    refine And.intro H.1 ?_
    replace H := H.2
    try simp only [qa_80 R_M_78] at H ⊢
    refine And.intro (fun c2 => ?_) (fun c2 => ?_)
    · replace H := H.1 c2
      replace hF := hF.trans (if_pos c2)
      exact qS_takes_43 S_M_78 R_M_78 H (fun M1 r1 q1 q2 q3 u => K M1 r1 q1 q2 q3 (hF.trans u))
    · replace H := H.2 c2
      replace hF := hF.trans (if_neg c2)
      try simp only [qf_1564 R_M_78] at H ⊢
      refine And.intro (fun c3 => ?_) (fun c3 => ?_)
      · replace H := H.1 c3
        replace hF := hF.trans (if_pos c3)
        exact K _ _ H S_M_78 R_M_78 hF
      · replace H := H.2 c3
        replace hF := hF.trans (if_neg c3)
        exact qS_takes_43 S_M_78 R_M_78 H (fun M1 r1 q1 q2 q3 u => K M1 r1 q1 q2 q3 (hF.trans u))
  · replace H := H.2 c1
    replace hF := hF.trans (if_neg c1)
    exact K _ _ H S_M_72 R_M_72 hF
set_option maxRecDepth 100000 in
noncomputable def qF_hears_124 (x1 : Int32) (r : q_R) : q_R := (if ((r.1 1564) = 0) then (q_st (qF_answers x1 6 0 r) (fun r1 => r1)) else (q_st (qF_answers x1 6 1 r) (fun r2 => r2)))
set_option maxRecDepth 100000 in
theorem qE_hears_124 (x1 : Int32) (r : q_R) : qF_hears_124 x1 r = (if ((r.1 1564) = 0) then (q_st (qF_answers x1 6 0 r) (fun r1 => r1)) else (q_st (qF_answers x1 6 1 r) (fun r2 => r2))) := rfl
set_option maxRecDepth 100000 in
set_option maxHeartbeats 4000000 in
theorem qS_hears_124 {n : Nat} {Q Post : z_Mem → Prop} {x1 : Int32} {M : z_Mem} {r : q_R} (S : y_S n M) (R : q_rep n M r) (H : P_X12_hears_124 (n + 40) Q x1 M) (K : ∀ M1 r1, Q M1 → y_S n M1 → q_rep n M1 r1 → qF_hears_124 x1 r = r1 → Post M1) : P_X12_hears_124 (n + 40) Post x1 M := by
  have hF := qE_hears_124 x1 r
  unfold P_X12_hears_124 at H ⊢
  try simp only [qf_1564 R] at H ⊢
  refine And.intro (fun c1 => ?_) (fun c1 => ?_)
  · replace H := H.1 c1
    replace hF := hF.trans (if_pos c1)
    refine qS_answers S R H (fun M_3 r_M_3 H S_M_3 R_M_3 u => ?_)
    replace hF := hF.trans (q_ste u.symm)
    exact K _ _ H S_M_3 R_M_3 hF
  · replace H := H.2 c1
    replace hF := hF.trans (if_neg c1)
    refine qS_answers S R H (fun M_4 r_M_4 H S_M_4 R_M_4 u => ?_)
    replace hF := hF.trans (q_ste u.symm)
    exact K _ _ H S_M_4 R_M_4 hF
set_option maxRecDepth 100000 in
noncomputable def qF_hears_106 (x1 : Int32) (x4 : Int32) (t1 : Int32) (r : q_R) : q_R := (q_st (uf r 1564 t1) (fun r1 => (if ((r1.1 1564) = 0) then (qF_hears_124 x1 r1) else (q_st (ua r1 62 (x4 : Int32).toNatClampNeg 1) (fun r2 => (qF_hears_124 x1 r2))))))
set_option maxRecDepth 100000 in
theorem qE_hears_106 (x1 : Int32) (x4 : Int32) (t1 : Int32) (r : q_R) : qF_hears_106 x1 x4 t1 r = (q_st (uf r 1564 t1) (fun r1 => (if ((r1.1 1564) = 0) then (qF_hears_124 x1 r1) else (q_st (ua r1 62 (x4 : Int32).toNatClampNeg 1) (fun r2 => (qF_hears_124 x1 r2)))))) := rfl
set_option maxRecDepth 100000 in
set_option maxHeartbeats 4000000 in
theorem qS_hears_106 {n : Nat} {Q Post : z_Mem → Prop} {x1 : Int32} {x4 : Int32} {t1 : Int32} {o_t0 : Option Nat} {M : z_Mem} {r : q_R} (ho_t0 : o_t0 = some (n + 40)) (S : y_S n M) (R : q_rep n M r) (H : P_X12_hears_106 (n + 40) Q x1 x4 o_t0 t1 M) (K : ∀ M1 r1, Q M1 → y_S n M1 → q_rep n M1 r1 → qF_hears_106 x1 x4 t1 r = r1 → Post M1) : P_X12_hears_106 (n + 40) Post x1 x4 o_t0 t1 M := by
  subst ho_t0
  have hF := qE_hears_106 x1 x4 t1 r
  unfold P_X12_hears_106 at H ⊢
  replace H := z_nne rfl H
  refine z_nn_of rfl ?_
  intro M_6 e_M_6
  replace H := H M_6 e_M_6
  have S_M_6 : y_S n M_6 := by rw [e_M_6]; exact S_sfi S
  have R_M_6 := rep_sfi R e_M_6
  obtain ⟨r_M_6, h_M_6⟩ := q_gen R_M_6
  replace hF := hF.trans (q_ste h_M_6.2)
  replace R_M_6 := h_M_6.1
  try simp only [qf_1564 R_M_6] at H ⊢
  refine And.intro (fun c1 => ?_) (fun c1 => ?_)
  · replace H := H.1 c1
    replace hF := hF.trans (if_pos c1)
    exact qS_hears_124 S_M_6 R_M_6 H (fun M1 r1 q1 q2 q3 u => K M1 r1 q1 q2 q3 (hF.trans u))
  · replace H := H.2 c1
    replace hF := hF.trans (if_neg c1)
    replace H := z_nne (s_1565_40 S_M_6) H
    refine z_nn_of (s_1565_40 S_M_6) ?_
    refine And.intro H.1 ?_
    replace H := H.2
    intro M_12 e_M_12
    replace H := H M_12 e_M_12
    have S_M_12 : y_S n M_12 := by rw [e_M_12]; exact S_sai S_M_6
    have R_M_12 := rep_sai R_M_6 (by decide) (by decide) e_M_12
    obtain ⟨r_M_12, h_M_12⟩ := q_gen R_M_12
    replace hF := hF.trans (q_ste h_M_12.2)
    replace R_M_12 := h_M_12.1
    exact qS_hears_124 S_M_12 R_M_12 H (fun M1 r1 q1 q2 q3 u => K M1 r1 q1 q2 q3 (hF.trans u))
set_option maxRecDepth 100000 in
noncomputable def qF_hears_105 (x1 : Int32) (x4 : Int32) (r : q_R) : q_R := (qF_hears_106 x1 x4 0 r)
set_option maxRecDepth 100000 in
theorem qE_hears_105 (x1 : Int32) (x4 : Int32) (r : q_R) : qF_hears_105 x1 x4 r = (qF_hears_106 x1 x4 0 r) := rfl
set_option maxRecDepth 100000 in
set_option maxHeartbeats 4000000 in
theorem qS_hears_105 {n : Nat} {Q Post : z_Mem → Prop} {x1 : Int32} {x4 : Int32} {o_t0 : Option Nat} {M : z_Mem} {r : q_R} (ho_t0 : o_t0 = some (n + 40)) (S : y_S n M) (R : q_rep n M r) (H : P_X12_hears_105 (n + 40) Q x1 x4 o_t0 M) (K : ∀ M1 r1, Q M1 → y_S n M1 → q_rep n M1 r1 → qF_hears_105 x1 x4 r = r1 → Post M1) : P_X12_hears_105 (n + 40) Post x1 x4 o_t0 M := by
  subst ho_t0
  have hF := qE_hears_105 x1 x4 r
  unfold P_X12_hears_105 at H ⊢
  exact qS_hears_106 rfl S R H (fun M1 r1 q1 q2 q3 u => K M1 r1 q1 q2 q3 (hF.trans u))
set_option maxRecDepth 100000 in
noncomputable def qF_hears_80 (x1 : Int32) (x4 : Int32) (r : q_R) : q_R := (q_st (uf r 1562 1) (fun r1 => (if (x4 < 0) then (qF_hears_105 x1 x4 r1) else (if ((r1.2 62 (x4 : Int32).toNatClampNeg) = 0) then (qF_hears_106 x1 x4 1 r1) else (qF_hears_105 x1 x4 r1)))))
set_option maxRecDepth 100000 in
theorem qE_hears_80 (x1 : Int32) (x4 : Int32) (r : q_R) : qF_hears_80 x1 x4 r = (q_st (uf r 1562 1) (fun r1 => (if (x4 < 0) then (qF_hears_105 x1 x4 r1) else (if ((r1.2 62 (x4 : Int32).toNatClampNeg) = 0) then (qF_hears_106 x1 x4 1 r1) else (qF_hears_105 x1 x4 r1))))) := rfl
set_option maxRecDepth 100000 in
set_option maxHeartbeats 4000000 in
theorem qS_hears_80 {n : Nat} {Q Post : z_Mem → Prop} {x1 : Int32} {x4 : Int32} {M : z_Mem} {r : q_R} (S : y_S n M) (R : q_rep n M r) (H : P_X12_hears_80 (n + 40) Q x1 x4 M) (K : ∀ M1 r1, Q M1 → y_S n M1 → q_rep n M1 r1 → qF_hears_80 x1 x4 r = r1 → Post M1) : P_X12_hears_80 (n + 40) Post x1 x4 M := by
  have hF := qE_hears_80 x1 x4 r
  unfold P_X12_hears_80 at H ⊢
  intro M_13 e_M_13
  replace H := H M_13 e_M_13
  have S_M_13 : y_S n M_13 := by rw [e_M_13]; exact S_sfi S
  have R_M_13 := rep_sfi R e_M_13
  obtain ⟨r_M_13, h_M_13⟩ := q_gen R_M_13
  replace hF := hF.trans (q_ste h_M_13.2)
  replace R_M_13 := h_M_13.1
  refine And.intro (fun c1 => ?_) (fun c1 => ?_)
  · replace H := H.1 c1
    replace hF := hF.trans (if_pos c1)
    exact qS_hears_105 rfl S_M_13 R_M_13 H (fun M1 r1 q1 q2 q3 u => K M1 r1 q1 q2 q3 (hF.trans u))
  · replace H := H.2 c1
    replace hF := hF.trans (if_neg c1)
    replace H := z_nne (s_1565_40 S_M_13) H
    refine z_nn_of (s_1565_40 S_M_13) ?_
    refine And.intro H.1 ?_
    replace H := H.2
    try simp only [qa_62 R_M_13] at H ⊢
    refine And.intro (fun c2 => ?_) (fun c2 => ?_)
    · replace H := H.1 c2
      replace hF := hF.trans (if_pos c2)
      exact qS_hears_106 rfl S_M_13 R_M_13 H (fun M1 r1 q1 q2 q3 u => K M1 r1 q1 q2 q3 (hF.trans u))
    · replace H := H.2 c2
      replace hF := hF.trans (if_neg c2)
      exact qS_hears_105 rfl S_M_13 R_M_13 H (fun M1 r1 q1 q2 q3 u => K M1 r1 q1 q2 q3 (hF.trans u))
set_option maxRecDepth 100000 in
noncomputable def qF_hears_12 (x1 : Int32) (x2 : Int32) (t0 : Int32) (r : q_R) : q_R := (q_st ((x2 / 2) - 1) (fun (x_19 : Int32) => (if ((r.1 1562) = 2) then r else (if ((r.1 1562) = 1) then (if ((r.1 1564) = 0) then (q_st (qF_answers x1 6 0 r) (fun r1 => r1)) else (q_st (qF_answers x1 6 1 r) (fun r2 => r2))) else (if ((r.1 1563) = 0) then (qF_hears_80 x1 x_19 r) else (if (t0 = 0) then (q_st (qF_answers x1 5 0 r) (fun r3 => r3)) else (qF_hears_80 x1 x_19 r)))))))
set_option maxRecDepth 100000 in
theorem qE_hears_12 (x1 : Int32) (x2 : Int32) (t0 : Int32) (r : q_R) : qF_hears_12 x1 x2 t0 r = (q_st ((x2 / 2) - 1) (fun (x_19 : Int32) => (if ((r.1 1562) = 2) then r else (if ((r.1 1562) = 1) then (if ((r.1 1564) = 0) then (q_st (qF_answers x1 6 0 r) (fun r1 => r1)) else (q_st (qF_answers x1 6 1 r) (fun r2 => r2))) else (if ((r.1 1563) = 0) then (qF_hears_80 x1 x_19 r) else (if (t0 = 0) then (q_st (qF_answers x1 5 0 r) (fun r3 => r3)) else (qF_hears_80 x1 x_19 r))))))) := rfl
set_option maxRecDepth 100000 in
set_option maxHeartbeats 4000000 in
theorem qS_hears_12 {n : Nat} {Q Post : z_Mem → Prop} {x1 : Int32} {x2 : Int32} {t0 : Int32} {M : z_Mem} {r : q_R} (S : y_S n M) (R : q_rep n M r) (H : P_X12_hears_12 (n + 40) Q x1 x2 t0 M) (K : ∀ M1 r1, Q M1 → y_S n M1 → q_rep n M1 r1 → qF_hears_12 x1 x2 t0 r = r1 → Post M1) : P_X12_hears_12 (n + 40) Post x1 x2 t0 M := by
  have hF := qE_hears_12 x1 x2 t0 r
  unfold P_X12_hears_12 at H ⊢
  intro x_19 e_x_19
  replace H := H x_19 e_x_19
  replace hF := hF.trans (q_ste e_x_19)
  try simp only [qf_1562 R] at H ⊢
  refine And.intro (fun c1 => ?_) (fun c1 => ?_)
  · replace H := H.1 c1
    replace hF := hF.trans (if_pos c1)
    exact K _ _ H S R hF
  · replace H := H.2 c1
    replace hF := hF.trans (if_neg c1)
    try simp only [qf_1562 R] at H ⊢
    refine And.intro (fun c2 => ?_) (fun c2 => ?_)
    · replace H := H.1 c2
      replace hF := hF.trans (if_pos c2)
      try simp only [qf_1564 R] at H ⊢
      refine And.intro (fun c3 => ?_) (fun c3 => ?_)
      · replace H := H.1 c3
        replace hF := hF.trans (if_pos c3)
        refine qS_answers S R H (fun M_30 r_M_30 H S_M_30 R_M_30 u => ?_)
        replace hF := hF.trans (q_ste u.symm)
        exact K _ _ H S_M_30 R_M_30 hF
      · replace H := H.2 c3
        replace hF := hF.trans (if_neg c3)
        refine qS_answers S R H (fun M_31 r_M_31 H S_M_31 R_M_31 u => ?_)
        replace hF := hF.trans (q_ste u.symm)
        exact K _ _ H S_M_31 R_M_31 hF
    · replace H := H.2 c2
      replace hF := hF.trans (if_neg c2)
      try simp only [qf_1563 R] at H ⊢
      refine And.intro (fun c4 => ?_) (fun c4 => ?_)
      · replace H := H.1 c4
        replace hF := hF.trans (if_pos c4)
        exact qS_hears_80 S R H (fun M1 r1 q1 q2 q3 u => K M1 r1 q1 q2 q3 (hF.trans u))
      · replace H := H.2 c4
        replace hF := hF.trans (if_neg c4)
        refine And.intro (fun c5 => ?_) (fun c5 => ?_)
        · replace H := H.1 c5
          replace hF := hF.trans (if_pos c5)
          refine qS_answers S R H (fun M_27 r_M_27 H S_M_27 R_M_27 u => ?_)
          replace hF := hF.trans (q_ste u.symm)
          exact K _ _ H S_M_27 R_M_27 hF
        · replace H := H.2 c5
          replace hF := hF.trans (if_neg c5)
          exact qS_hears_80 S R H (fun M1 r1 q1 q2 q3 u => K M1 r1 q1 q2 q3 (hF.trans u))
set_option maxRecDepth 100000 in
noncomputable def qF_hears (p1 : Int32) (p2 : Int32) (r : q_R) : q_R := (if ((p2 - ((p2 / 2) * 2)) = 1) then (qF_hears_12 p1 p2 1 r) else (qF_hears_12 p1 p2 0 r))
set_option maxRecDepth 100000 in
theorem qE_hears (p1 : Int32) (p2 : Int32) (r : q_R) : qF_hears p1 p2 r = (if ((p2 - ((p2 / 2) * 2)) = 1) then (qF_hears_12 p1 p2 1 r) else (qF_hears_12 p1 p2 0 r)) := rfl
set_option maxRecDepth 100000 in
set_option maxHeartbeats 4000000 in
theorem qS_hears {n : Nat} {Q Post : z_Mem → Prop} {p1 : Int32} {p2 : Int32} {M : z_Mem} {r : q_R} (S : y_S n M) (R : q_rep n M r) (H : P_X12_hears (n + 40) p1 p2 M Q) (K : ∀ M1 r1, Q M1 → y_S n M1 → q_rep n M1 r1 → qF_hears p1 p2 r = r1 → Post M1) : P_X12_hears (n + 40) p1 p2 M Post := by
  have hF := qE_hears p1 p2 r
  unfold P_X12_hears at H ⊢
  refine And.intro (fun c1 => ?_) (fun c1 => ?_)
  · replace H := H.1 c1
    replace hF := hF.trans (if_pos c1)
    exact qS_hears_12 S R H (fun M1 r1 q1 q2 q3 u => K M1 r1 q1 q2 q3 (hF.trans u))
  · replace H := H.2 c1
    replace hF := hF.trans (if_neg c1)
    exact qS_hears_12 S R H (fun M1 r1 q1 q2 q3 u => K M1 r1 q1 q2 q3 (hF.trans u))
set_option maxRecDepth 100000 in
noncomputable def qF_arrivesAtServer_46 (x2 : Int32) (x3 : Int32) (r : q_R) : q_R := (if ((r.1 1562) = 3) then (q_st (qF_answers x3 9 0 r) (fun r1 => r1)) else (if (x2 = 3) then (if ((r.1 1562) = 1) then (q_st (qF_answers x3 8 0 r) (fun r2 => r2)) else (if (x2 = 4) then (q_st (uf r 1562 2) (fun r3 => r3)) else r)) else (if (x2 = 4) then (q_st (uf r 1562 2) (fun r4 => r4)) else r)))
set_option maxRecDepth 100000 in
theorem qE_arrivesAtServer_46 (x2 : Int32) (x3 : Int32) (r : q_R) : qF_arrivesAtServer_46 x2 x3 r = (if ((r.1 1562) = 3) then (q_st (qF_answers x3 9 0 r) (fun r1 => r1)) else (if (x2 = 3) then (if ((r.1 1562) = 1) then (q_st (qF_answers x3 8 0 r) (fun r2 => r2)) else (if (x2 = 4) then (q_st (uf r 1562 2) (fun r3 => r3)) else r)) else (if (x2 = 4) then (q_st (uf r 1562 2) (fun r4 => r4)) else r))) := rfl
set_option maxRecDepth 100000 in
set_option maxHeartbeats 4000000 in
theorem qS_arrivesAtServer_46 {n : Nat} {Q Post : z_Mem → Prop} {x2 : Int32} {x3 : Int32} {M : z_Mem} {r : q_R} (S : y_S n M) (R : q_rep n M r) (H : P_X12_arrivesAtServer_46 (n + 40) Q x2 x3 M) (K : ∀ M1 r1, Q M1 → y_S n M1 → q_rep n M1 r1 → qF_arrivesAtServer_46 x2 x3 r = r1 → Post M1) : P_X12_arrivesAtServer_46 (n + 40) Post x2 x3 M := by
  have hF := qE_arrivesAtServer_46 x2 x3 r
  unfold P_X12_arrivesAtServer_46 at H ⊢
  try simp only [qf_1562 R] at H ⊢
  refine And.intro (fun c1 => ?_) (fun c1 => ?_)
  · replace H := H.1 c1
    replace hF := hF.trans (if_pos c1)
    refine qS_answers S R H (fun M_11 r_M_11 H S_M_11 R_M_11 u => ?_)
    replace hF := hF.trans (q_ste u.symm)
    exact K _ _ H S_M_11 R_M_11 hF
  · replace H := H.2 c1
    replace hF := hF.trans (if_neg c1)
    refine And.intro (fun c2 => ?_) (fun c2 => ?_)
    · replace H := H.1 c2
      replace hF := hF.trans (if_pos c2)
      try simp only [qf_1562 R] at H ⊢
      refine And.intro (fun c3 => ?_) (fun c3 => ?_)
      · replace H := H.1 c3
        replace hF := hF.trans (if_pos c3)
        refine qS_answers S R H (fun M_10 r_M_10 H S_M_10 R_M_10 u => ?_)
        replace hF := hF.trans (q_ste u.symm)
        exact K _ _ H S_M_10 R_M_10 hF
      · replace H := H.2 c3
        replace hF := hF.trans (if_neg c3)
        refine And.intro (fun c4 => ?_) (fun c4 => ?_)
        · replace H := H.1 c4
          replace hF := hF.trans (if_pos c4)
          intro M_9 e_M_9
          replace H := H M_9 e_M_9
          have S_M_9 : y_S n M_9 := by rw [e_M_9]; exact S_sfi S
          have R_M_9 := rep_sfi R e_M_9
          obtain ⟨r_M_9, h_M_9⟩ := q_gen R_M_9
          replace hF := hF.trans (q_ste h_M_9.2)
          replace R_M_9 := h_M_9.1
          exact K _ _ H S_M_9 R_M_9 hF
        · replace H := H.2 c4
          replace hF := hF.trans (if_neg c4)
          exact K _ _ H S R hF
    · replace H := H.2 c2
      replace hF := hF.trans (if_neg c2)
      refine And.intro (fun c5 => ?_) (fun c5 => ?_)
      · replace H := H.1 c5
        replace hF := hF.trans (if_pos c5)
        intro M_5 e_M_5
        replace H := H M_5 e_M_5
        have S_M_5 : y_S n M_5 := by rw [e_M_5]; exact S_sfi S
        have R_M_5 := rep_sfi R e_M_5
        obtain ⟨r_M_5, h_M_5⟩ := q_gen R_M_5
        replace hF := hF.trans (q_ste h_M_5.2)
        replace R_M_5 := h_M_5.1
        exact K _ _ H S_M_5 R_M_5 hF
      · replace H := H.2 c5
        replace hF := hF.trans (if_neg c5)
        exact K _ _ H S R hF
set_option maxRecDepth 100000 in
noncomputable def qF_arrivesAtServer (p1 : Int32) (r : q_R) : q_R := (q_st (r.2 52 (p1 : Int32).toNatClampNeg) (fun (x_15 : Int32) => (q_st (r.2 54 (p1 : Int32).toNatClampNeg) (fun (x_19 : Int32) => (if (x_15 = 1) then (q_st (qF_hears x_19 (r.2 53 (p1 : Int32).toNatClampNeg) r) (fun r1 => r1)) else (if (x_15 = 2) then (q_st (qF_takes (r.2 53 (p1 : Int32).toNatClampNeg) r) (fun r2 => (qF_arrivesAtServer_46 x_15 x_19 r2))) else (qF_arrivesAtServer_46 x_15 x_19 r)))))))
set_option maxRecDepth 100000 in
theorem qE_arrivesAtServer (p1 : Int32) (r : q_R) : qF_arrivesAtServer p1 r = (q_st (r.2 52 (p1 : Int32).toNatClampNeg) (fun (x_15 : Int32) => (q_st (r.2 54 (p1 : Int32).toNatClampNeg) (fun (x_19 : Int32) => (if (x_15 = 1) then (q_st (qF_hears x_19 (r.2 53 (p1 : Int32).toNatClampNeg) r) (fun r1 => r1)) else (if (x_15 = 2) then (q_st (qF_takes (r.2 53 (p1 : Int32).toNatClampNeg) r) (fun r2 => (qF_arrivesAtServer_46 x_15 x_19 r2))) else (qF_arrivesAtServer_46 x_15 x_19 r))))))) := rfl
set_option maxRecDepth 100000 in
set_option maxHeartbeats 4000000 in
theorem qS_arrivesAtServer {n : Nat} {Q Post : z_Mem → Prop} {p1 : Int32} {M : z_Mem} {r : q_R} (S : y_S n M) (R : q_rep n M r) (H : P_X12_arrivesAtServer (n + 40) p1 M Q) (K : ∀ M1 r1, Q M1 → y_S n M1 → q_rep n M1 r1 → qF_arrivesAtServer p1 r = r1 → Post M1) : P_X12_arrivesAtServer (n + 40) p1 M Post := by
  have hF := qE_arrivesAtServer p1 r
  unfold P_X12_arrivesAtServer at H ⊢
  replace H := z_nne (s_1548_40 S) H
  refine z_nn_of (s_1548_40 S) ?_
  refine And.intro H.1 ?_
  replace H := H.2
  try simp only [qa_52 R] at H ⊢
  intro x_15 e_x_15
  replace H := H x_15 e_x_15
  replace hF := hF.trans (q_ste e_x_15)
  replace H := z_nne (s_1550_40 S) H
  refine z_nn_of (s_1550_40 S) ?_
  refine And.intro H.1 ?_
  replace H := H.2
  try simp only [qa_54 R] at H ⊢
  intro x_19 e_x_19
  replace H := H x_19 e_x_19
  replace hF := hF.trans (q_ste e_x_19)
  refine And.intro (fun c1 => ?_) (fun c1 => ?_)
  · replace H := H.1 c1
    replace hF := hF.trans (if_pos c1)
    replace H := z_nne (s_1549_40 S) H
    refine z_nn_of (s_1549_40 S) ?_
    refine And.intro H.1 ?_
    replace H := H.2
    try simp only [qa_53 R] at H ⊢
    refine qS_hears S R H (fun M_29 r_M_29 H S_M_29 R_M_29 u => ?_)
    replace hF := hF.trans (q_ste u.symm)
    exact K _ _ H S_M_29 R_M_29 hF
  · replace H := H.2 c1
    replace hF := hF.trans (if_neg c1)
    refine And.intro (fun c2 => ?_) (fun c2 => ?_)
    · replace H := H.1 c2
      replace hF := hF.trans (if_pos c2)
      replace H := z_nne (s_1549_40 S) H
      refine z_nn_of (s_1549_40 S) ?_
      refine And.intro H.1 ?_
      replace H := H.2
      try simp only [qa_53 R] at H ⊢
      refine qS_takes S R H (fun M_25 r_M_25 H S_M_25 R_M_25 u => ?_)
      replace hF := hF.trans (q_ste u.symm)
      exact qS_arrivesAtServer_46 S_M_25 R_M_25 H (fun M1 r1 q1 q2 q3 u => K M1 r1 q1 q2 q3 (hF.trans u))
    · replace H := H.2 c2
      replace hF := hF.trans (if_neg c2)
      exact qS_arrivesAtServer_46 S R H (fun M1 r1 q1 q2 q3 u => K M1 r1 q1 q2 q3 (hF.trans u))
set_option maxRecDepth 100000 in
noncomputable def qF_setCookies (p1 : Int32) (r : q_R) : (Int32 × q_R) := (q_st (uf r 1630 0) (fun r1 => (q_st (r1.1 1563) (fun (x_3 : Int32) => (q_st (uf r1 1563 p1) (fun r2 => (x_3, r2)))))))
set_option maxRecDepth 100000 in
theorem qE_setCookies (p1 : Int32) (r : q_R) : qF_setCookies p1 r = (q_st (uf r 1630 0) (fun r1 => (q_st (r1.1 1563) (fun (x_3 : Int32) => (q_st (uf r1 1563 p1) (fun r2 => (x_3, r2))))))) := rfl
set_option maxRecDepth 100000 in
set_option maxHeartbeats 4000000 in
theorem qS_setCookies {n : Nat} {Q Post : Int32 → z_Mem → Prop} {p1 : Int32} {M : z_Mem} {r : q_R} (S : y_S n M) (R : q_rep n M r) (H : P_X12_setCookies (n + 40) p1 M Q) (K : ∀ x M1 r1, Q x M1 → y_S n M1 → q_rep n M1 r1 → qF_setCookies p1 r = (x, r1) → Post x M1) : P_X12_setCookies (n + 40) p1 M Post := by
  have hF := qE_setCookies p1 r
  unfold P_X12_setCookies at H ⊢
  intro M_1 e_M_1
  replace H := H M_1 e_M_1
  have S_M_1 : y_S n M_1 := by rw [e_M_1]; exact S_sfi S
  have R_M_1 := rep_sfi R e_M_1
  obtain ⟨r_M_1, h_M_1⟩ := q_gen R_M_1
  replace hF := hF.trans (q_ste h_M_1.2)
  replace R_M_1 := h_M_1.1
  try simp only [qf_1563 R_M_1] at H ⊢
  intro x_3 e_x_3
  replace H := H x_3 e_x_3
  replace hF := hF.trans (q_ste e_x_3)
  intro M_4 e_M_4
  replace H := H M_4 e_M_4
  have S_M_4 : y_S n M_4 := by rw [e_M_4]; exact S_sfi S_M_1
  have R_M_4 := rep_sfi R_M_1 e_M_4
  obtain ⟨r_M_4, h_M_4⟩ := q_gen R_M_4
  replace hF := hF.trans (q_ste h_M_4.2)
  replace R_M_4 := h_M_4.1
  exact K _ _ _ H S_M_4 R_M_4 hF
set_option maxRecDepth 100000 in
noncomputable def qF_read_45 (x1 : Int32) (t0 : Int32) (r : q_R) : (Int32 × q_R) := (q_st (ua r 65 (x1 : Int32).toNatClampNeg ((r.2 65 (x1 : Int32).toNatClampNeg) + t0)) (fun r1 => (if (t0 ≤ 0) then (t0, r1) else (if ((r1.1 1562) = 1) then (if ((r1.1 1575) = (-1)) then (t0, r1) else (q_st (qF_acknowledges r1) (fun r2 => (t0, r2)))) else (t0, r1)))))
set_option maxRecDepth 100000 in
theorem qE_read_45 (x1 : Int32) (t0 : Int32) (r : q_R) : qF_read_45 x1 t0 r = (q_st (ua r 65 (x1 : Int32).toNatClampNeg ((r.2 65 (x1 : Int32).toNatClampNeg) + t0)) (fun r1 => (if (t0 ≤ 0) then (t0, r1) else (if ((r1.1 1562) = 1) then (if ((r1.1 1575) = (-1)) then (t0, r1) else (q_st (qF_acknowledges r1) (fun r2 => (t0, r2)))) else (t0, r1))))) := rfl
set_option maxRecDepth 100000 in
set_option maxHeartbeats 4000000 in
theorem qS_read_45 {n : Nat} {Q Post : Int32 → z_Mem → Prop} {x1 : Int32} {t0 : Int32} {M : z_Mem} {r : q_R} (S : y_S n M) (R : q_rep n M r) (H : P_X12_read_45 (n + 40) Q x1 t0 M) (K : ∀ x M1 r1, Q x M1 → y_S n M1 → q_rep n M1 r1 → qF_read_45 x1 t0 r = (x, r1) → Post x M1) : P_X12_read_45 (n + 40) Post x1 t0 M := by
  have hF := qE_read_45 x1 t0 r
  unfold P_X12_read_45 at H ⊢
  replace H := z_nne (s_1571_40 S) H
  refine z_nn_of (s_1571_40 S) ?_
  refine And.intro H.1 ?_
  replace H := H.2
  refine And.intro H.1 ?_
  replace H := H.2
  try simp only [qa_65 R] at H ⊢
  intro M_5 e_M_5
  replace H := H M_5 e_M_5
  have S_M_5 : y_S n M_5 := by rw [e_M_5]; exact S_sai S
  have R_M_5 := rep_sai R (by decide) (by decide) e_M_5
  obtain ⟨r_M_5, h_M_5⟩ := q_gen R_M_5
  replace hF := hF.trans (q_ste h_M_5.2)
  replace R_M_5 := h_M_5.1
  refine And.intro (fun c1 => ?_) (fun c1 => ?_)
  · replace H := H.1 c1
    replace hF := hF.trans (if_pos c1)
    exact K _ _ _ H S_M_5 R_M_5 hF
  · replace H := H.2 c1
    replace hF := hF.trans (if_neg c1)
    try simp only [qf_1562 R_M_5] at H ⊢
    refine And.intro (fun c2 => ?_) (fun c2 => ?_)
    · replace H := H.1 c2
      replace hF := hF.trans (if_pos c2)
      try simp only [qf_1575 R_M_5] at H ⊢
      refine And.intro (fun c3 => ?_) (fun c3 => ?_)
      · replace H := H.1 c3
        replace hF := hF.trans (if_pos c3)
        exact K _ _ _ H S_M_5 R_M_5 hF
      · replace H := H.2 c3
        replace hF := hF.trans (if_neg c3)
        refine qS_acknowledges S_M_5 R_M_5 H (fun M_11 r_M_11 H S_M_11 R_M_11 u => ?_)
        replace hF := hF.trans (q_ste u.symm)
        exact K _ _ _ H S_M_11 R_M_11 hF
    · replace H := H.2 c2
      replace hF := hF.trans (if_neg c2)
      exact K _ _ _ H S_M_5 R_M_5 hF
set_option maxRecDepth 100000 in
noncomputable def qF_read (p1 : Int32) (p2 : Int32) (r : q_R) : (Int32 × q_R) := (q_st2 (qF_isStream p1 r) (fun (x_12 : Int32) r1 => (q_st2 (qF_in p2 1 200 r1) (fun (x_13 : Int32) r2 => (q_st2 (qF_goes x_12 x_13 1 r2) (fun (x_14 : Int32) r3 => (if (x_14 = 0) then (0, r3) else (q_st2 (qF_gotOf p1 r3) (fun (x_16 : Int32) r4 => (q_st (x_16 - (r4.2 65 (p1 : Int32).toNatClampNeg)) (fun (x_20 : Int32) => (if (x_20 ≤ p2) then (qF_read_45 p1 x_20 r4) else (qF_read_45 p1 p2 r4)))))))))))))
set_option maxRecDepth 100000 in
theorem qE_read (p1 : Int32) (p2 : Int32) (r : q_R) : qF_read p1 p2 r = (q_st2 (qF_isStream p1 r) (fun (x_12 : Int32) r1 => (q_st2 (qF_in p2 1 200 r1) (fun (x_13 : Int32) r2 => (q_st2 (qF_goes x_12 x_13 1 r2) (fun (x_14 : Int32) r3 => (if (x_14 = 0) then (0, r3) else (q_st2 (qF_gotOf p1 r3) (fun (x_16 : Int32) r4 => (q_st (x_16 - (r4.2 65 (p1 : Int32).toNatClampNeg)) (fun (x_20 : Int32) => (if (x_20 ≤ p2) then (qF_read_45 p1 x_20 r4) else (qF_read_45 p1 p2 r4))))))))))))) := rfl
set_option maxRecDepth 100000 in
set_option maxHeartbeats 4000000 in
theorem qS_read {n : Nat} {Q Post : Int32 → z_Mem → Prop} {p1 : Int32} {p2 : Int32} {M : z_Mem} {r : q_R} (S : y_S n M) (R : q_rep n M r) (H : P_X12_read (n + 40) p1 p2 M Q) (K : ∀ x M1 r1, Q x M1 → y_S n M1 → q_rep n M1 r1 → qF_read p1 p2 r = (x, r1) → Post x M1) : P_X12_read (n + 40) p1 p2 M Post := by
  have hF := qE_read p1 p2 r
  unfold P_X12_read at H ⊢
  refine qS_isStream S R H (fun x_12 M_12 r_M_12 H S_M_12 R_M_12 u => ?_)
  replace hF := hF.trans (q_ste2 u)
  refine qS_in S_M_12 R_M_12 H (fun x_13 M_13 r_M_13 H S_M_13 R_M_13 u => ?_)
  replace hF := hF.trans (q_ste2 u)
  refine qS_goes S_M_13 R_M_13 H (fun x_14 M_14 r_M_14 H S_M_14 R_M_14 u => ?_)
  replace hF := hF.trans (q_ste2 u)
  refine And.intro (fun c1 => ?_) (fun c1 => ?_)
  · replace H := H.1 c1
    replace hF := hF.trans (if_pos c1)
    exact K _ _ _ H S_M_14 R_M_14 hF
  · replace H := H.2 c1
    replace hF := hF.trans (if_neg c1)
    refine qS_gotOf S_M_14 R_M_14 H (fun x_16 M_16 r_M_16 H S_M_16 R_M_16 u => ?_)
    replace hF := hF.trans (q_ste2 u)
    replace H := z_nne (s_1571_40 S_M_16) H
    refine z_nn_of (s_1571_40 S_M_16) ?_
    refine And.intro H.1 ?_
    replace H := H.2
    try simp only [qa_65 R_M_16] at H ⊢
    intro x_20 e_x_20
    replace H := H x_20 e_x_20
    replace hF := hF.trans (q_ste e_x_20)
    refine And.intro (fun c2 => ?_) (fun c2 => ?_)
    · replace H := H.1 c2
      replace hF := hF.trans (if_pos c2)
      exact qS_read_45 S_M_16 R_M_16 H (fun x M1 r1 q1 q2 q3 u => K x M1 r1 q1 q2 q3 (hF.trans u))
    · replace H := H.2 c2
      replace hF := hF.trans (if_neg c2)
      exact qS_read_45 S_M_16 R_M_16 H (fun x M1 r1 q1 q2 q3 u => K x M1 r1 q1 q2 q3 (hF.trans u))
