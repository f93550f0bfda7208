/-! ===== THE REFERENCE as functions on its cells, 6 ===== -/
set_option maxRecDepth 100000 in
noncomputable def qF_use_44 (x1 : Int32) (t1 : Int32) (r : q_R) : (Int32 × q_R) := (qF_use_45 x1 t1 0 r)
set_option maxRecDepth 100000 in
theorem qE_use_44 (x1 : Int32) (t1 : Int32) (r : q_R) : qF_use_44 x1 t1 r = (qF_use_45 x1 t1 0 r) := rfl
set_option maxRecDepth 100000 in
set_option maxHeartbeats 4000000 in
theorem qS_use_44 {n : Nat} {Q Post : Int32 → z_Mem → Prop} {x1 : Int32} {t1 : Int32} {o_t0 : Option Nat} {M : z_Mem} {r : q_R} (ho_t0 : o_t0 = some (n + 40)) (S : y_S n M) (R : q_rep n M r) (H : P_X12_use_44 (n + 40) Q x1 o_t0 t1 M) (K : ∀ x M1 r1, Q x M1 → y_S n M1 → q_rep n M1 r1 → qF_use_44 x1 t1 r = (x, r1) → Post x M1) : P_X12_use_44 (n + 40) Post x1 o_t0 t1 M := by
  subst ho_t0
  have hF := qE_use_44 x1 t1 r
  unfold P_X12_use_44 at H ⊢
  exact qS_use_45 rfl S R H (fun x M1 r1 q1 q2 q3 u => K x M1 r1 q1 q2 q3 (hF.trans u))
set_option maxRecDepth 100000 in
noncomputable def qF_use_27 (x1 : Int32) (t1 : Int32) (r : q_R) : (Int32 × q_R) := (if (x1 = 0) then (qF_use_40 x1 t1 r) else (if ((r.2 92 (1 : Int32).toNatClampNeg) = 0) then (qF_use_44 x1 t1 r) else (qF_use_40 x1 t1 r)))
set_option maxRecDepth 100000 in
theorem qE_use_27 (x1 : Int32) (t1 : Int32) (r : q_R) : qF_use_27 x1 t1 r = (if (x1 = 0) then (qF_use_40 x1 t1 r) else (if ((r.2 92 (1 : Int32).toNatClampNeg) = 0) then (qF_use_44 x1 t1 r) else (qF_use_40 x1 t1 r))) := rfl
set_option maxRecDepth 100000 in
set_option maxHeartbeats 4000000 in
theorem qS_use_27 {n : Nat} {Q Post : Int32 → z_Mem → Prop} {x1 : Int32} {t1 : Int32} {o_t0 : Option Nat} {M : z_Mem} {r : q_R} (ho_t0 : o_t0 = some (n + 40)) (S : y_S n M) (R : q_rep n M r) (H : P_X12_use_27 (n + 40) Q x1 o_t0 t1 M) (K : ∀ x M1 r1, Q x M1 → y_S n M1 → q_rep n M1 r1 → qF_use_27 x1 t1 r = (x, r1) → Post x M1) : P_X12_use_27 (n + 40) Post x1 o_t0 t1 M := by
  subst ho_t0
  have hF := qE_use_27 x1 t1 r
  unfold P_X12_use_27 at H ⊢
  refine And.intro (fun c1 => ?_) (fun c1 => ?_)
  · replace H := H.1 c1
    replace hF := hF.trans (if_pos c1)
    exact qS_use_40 rfl S R H (fun x M1 r1 q1 q2 q3 u => K x M1 r1 q1 q2 q3 (hF.trans u))
  · replace H := H.2 c1
    replace hF := hF.trans (if_neg c1)
    replace H := z_nne (s_1615_40 S) H
    refine z_nn_of (s_1615_40 S) ?_
    refine And.intro H.1 ?_
    replace H := H.2
    try simp only [qa_92 R] at H ⊢
    refine And.intro (fun c2 => ?_) (fun c2 => ?_)
    · replace H := H.1 c2
      replace hF := hF.trans (if_pos c2)
      exact qS_use_44 rfl S R H (fun x M1 r1 q1 q2 q3 u => K x M1 r1 q1 q2 q3 (hF.trans u))
    · replace H := H.2 c2
      replace hF := hF.trans (if_neg c2)
      exact qS_use_40 rfl S R H (fun x M1 r1 q1 q2 q3 u => K x M1 r1 q1 q2 q3 (hF.trans u))
set_option maxRecDepth 100000 in
noncomputable def qF_use (p1 : Int32) (r : q_R) : (Int32 × q_R) := (q_st2 (qF_in p1 0 2 r) (fun (x_12 : Int32) r1 => (if (x_12 = 0) then (qF_use_44 p1 x_12 r1) else (if (p1 = 1) then (qF_use_27 p1 x_12 r1) else (if ((r1.2 92 (0 : Int32).toNatClampNeg) = 0) then (qF_use_44 p1 x_12 r1) else (qF_use_27 p1 x_12 r1))))))
set_option maxRecDepth 100000 in
theorem qE_use (p1 : Int32) (r : q_R) : qF_use p1 r = (q_st2 (qF_in p1 0 2 r) (fun (x_12 : Int32) r1 => (if (x_12 = 0) then (qF_use_44 p1 x_12 r1) else (if (p1 = 1) then (qF_use_27 p1 x_12 r1) else (if ((r1.2 92 (0 : Int32).toNatClampNeg) = 0) then (qF_use_44 p1 x_12 r1) else (qF_use_27 p1 x_12 r1)))))) := rfl
set_option maxRecDepth 100000 in
set_option maxHeartbeats 4000000 in
theorem qS_use {n : Nat} {Q Post : Int32 → z_Mem → Prop} {p1 : Int32} {M : z_Mem} {r : q_R} (S : y_S n M) (R : q_rep n M r) (H : P_X12_use (n + 40) p1 M Q) (K : ∀ x M1 r1, Q x M1 → y_S n M1 → q_rep n M1 r1 → qF_use p1 r = (x, r1) → Post x M1) : P_X12_use (n + 40) p1 M Post := by
  have hF := qE_use p1 r
  unfold P_X12_use at H ⊢
  refine qS_in S R H (fun x_12 M_12 r_M_12 H S_M_12 R_M_12 u => ?_)
  replace hF := hF.trans (q_ste2 u)
  refine And.intro (fun c1 => ?_) (fun c1 => ?_)
  · replace H := H.1 c1
    replace hF := hF.trans (if_pos c1)
    exact qS_use_44 rfl S_M_12 R_M_12 H (fun x M1 r1 q1 q2 q3 u => K x M1 r1 q1 q2 q3 (hF.trans u))
  · replace H := H.2 c1
    replace hF := hF.trans (if_neg c1)
    refine And.intro (fun c2 => ?_) (fun c2 => ?_)
    · replace H := H.1 c2
      replace hF := hF.trans (if_pos c2)
      exact qS_use_27 rfl S_M_12 R_M_12 H (fun x M1 r1 q1 q2 q3 u => K x M1 r1 q1 q2 q3 (hF.trans u))
    · replace H := H.2 c2
      replace hF := hF.trans (if_neg c2)
      replace H := z_nne (s_1615_40 S_M_12) H
      refine z_nn_of (s_1615_40 S_M_12) ?_
      refine And.intro H.1 ?_
      replace H := H.2
      try simp only [qa_92 R_M_12] at H ⊢
      refine And.intro (fun c3 => ?_) (fun c3 => ?_)
      · replace H := H.1 c3
        replace hF := hF.trans (if_pos c3)
        exact qS_use_44 rfl S_M_12 R_M_12 H (fun x M1 r1 q1 q2 q3 u => K x M1 r1 q1 q2 q3 (hF.trans u))
      · replace H := H.2 c3
        replace hF := hF.trans (if_neg c3)
        exact qS_use_27 rfl S_M_12 R_M_12 H (fun x M1 r1 q1 q2 q3 u => K x M1 r1 q1 q2 q3 (hF.trans u))
set_option maxRecDepth 100000 in
noncomputable def qF_changeKey_54 (x2 : Int32) (t0 : Int32) (r : q_R) : ((Int32 × Int32 × q_R) ⊕ (Int32 × q_R)) := (q_st (x2 + 1) (fun (x_1 : Int32) => (.inl (t0, x_1, r))))
set_option maxRecDepth 100000 in
theorem qE_changeKey_54 (x2 : Int32) (t0 : Int32) (r : q_R) : qF_changeKey_54 x2 t0 r = (q_st (x2 + 1) (fun (x_1 : Int32) => (.inl (t0, x_1, r)))) := rfl
set_option maxRecDepth 100000 in
set_option maxHeartbeats 4000000 in
theorem qS_changeKey_54 {n : Nat} {Q Post : Int32 → z_Mem → Prop} {QJ4 PJ4 : Int32 → Int32 → z_Mem → Prop} {x2 : Int32} {t0 : Int32} {M : z_Mem} {r : q_R} (S : y_S n M) (R : q_rep n M r) (H : P_X12_changeKey_54 (n + 40) Q QJ4 x2 t0 M) (K : ∀ x M1 r1, Q x M1 → y_S n M1 → q_rep n M1 r1 → qF_changeKey_54 x2 t0 r = (.inr (x, r1)) → Post x M1) (KJ4 : ∀ v0 v1 M1 r1, QJ4 v0 v1 M1 → y_S n M1 → q_rep n M1 r1 → qF_changeKey_54 x2 t0 r = (.inl (v0, v1, r1)) → PJ4 v0 v1 M1) : P_X12_changeKey_54 (n + 40) Post PJ4 x2 t0 M := by
  have hF := qE_changeKey_54 x2 t0 r
  unfold P_X12_changeKey_54 at H ⊢
  intro x_1 e_x_1
  replace H := H x_1 e_x_1
  replace hF := hF.trans (q_ste e_x_1)
  exact KJ4 _ _ _ _ H S R hF
set_option maxRecDepth 100000 in
noncomputable def qF_changeKey_49 (x2 : Int32) (r : q_R) : ((Int32 × Int32 × q_R) ⊕ (Int32 × q_R)) := (qF_changeKey_54 x2 1 r)
set_option maxRecDepth 100000 in
theorem qE_changeKey_49 (x2 : Int32) (r : q_R) : qF_changeKey_49 x2 r = (qF_changeKey_54 x2 1 r) := rfl
set_option maxRecDepth 100000 in
set_option maxHeartbeats 4000000 in
theorem qS_changeKey_49 {n : Nat} {Q Post : Int32 → z_Mem → Prop} {QJ4 PJ4 : Int32 → Int32 → z_Mem → Prop} {x2 : Int32} {M : z_Mem} {r : q_R} (S : y_S n M) (R : q_rep n M r) (H : P_X12_changeKey_49 (n + 40) Q QJ4 x2 M) (K : ∀ x M1 r1, Q x M1 → y_S n M1 → q_rep n M1 r1 → qF_changeKey_49 x2 r = (.inr (x, r1)) → Post x M1) (KJ4 : ∀ v0 v1 M1 r1, QJ4 v0 v1 M1 → y_S n M1 → q_rep n M1 r1 → qF_changeKey_49 x2 r = (.inl (v0, v1, r1)) → PJ4 v0 v1 M1) : P_X12_changeKey_49 (n + 40) Post PJ4 x2 M := by
  have hF := qE_changeKey_49 x2 r
  unfold P_X12_changeKey_49 at H ⊢
  exact qS_changeKey_54 S R H (fun x M1 r1 q1 q2 q3 u => K x M1 r1 q1 q2 q3 (hF.trans u)) (fun v0 v1 M1 r1 q1 q2 q3 u => KJ4 v0 v1 M1 r1 q1 q2 q3 (hF.trans u))
set_option maxRecDepth 100000 in
noncomputable def qF_changeKey_53 (x2 : Int32) (r : q_R) : ((Int32 × Int32 × q_R) ⊕ (Int32 × q_R)) := (qF_changeKey_54 x2 0 r)
set_option maxRecDepth 100000 in
theorem qE_changeKey_53 (x2 : Int32) (r : q_R) : qF_changeKey_53 x2 r = (qF_changeKey_54 x2 0 r) := rfl
set_option maxRecDepth 100000 in
set_option maxHeartbeats 4000000 in
theorem qS_changeKey_53 {n : Nat} {Q Post : Int32 → z_Mem → Prop} {QJ4 PJ4 : Int32 → Int32 → z_Mem → Prop} {x2 : Int32} {M : z_Mem} {r : q_R} (S : y_S n M) (R : q_rep n M r) (H : P_X12_changeKey_53 (n + 40) Q QJ4 x2 M) (K : ∀ x M1 r1, Q x M1 → y_S n M1 → q_rep n M1 r1 → qF_changeKey_53 x2 r = (.inr (x, r1)) → Post x M1) (KJ4 : ∀ v0 v1 M1 r1, QJ4 v0 v1 M1 → y_S n M1 → q_rep n M1 r1 → qF_changeKey_53 x2 r = (.inl (v0, v1, r1)) → PJ4 v0 v1 M1) : P_X12_changeKey_53 (n + 40) Post PJ4 x2 M := by
  have hF := qE_changeKey_53 x2 r
  unfold P_X12_changeKey_53 at H ⊢
  exact qS_changeKey_54 S R H (fun x M1 r1 q1 q2 q3 u => K x M1 r1 q1 q2 q3 (hF.trans u)) (fun v0 v1 M1 r1 q1 q2 q3 u => KJ4 v0 v1 M1 r1 q1 q2 q3 (hF.trans u))
set_option maxRecDepth 100000 in
noncomputable def qF_changeKey_79 (t1 : Int32) (r : q_R) : (Int32 × q_R) := (q_st2 (qF_goes t1 1 1 r) (fun (x_2 : Int32) r1 => (if (x_2 = 0) then (0, r1) else (q_st (uf r1 1584 ((r1.1 1584) + 1)) (fun r2 => ((r2.1 1584), r2))))))
set_option maxRecDepth 100000 in
theorem qE_changeKey_79 (t1 : Int32) (r : q_R) : qF_changeKey_79 t1 r = (q_st2 (qF_goes t1 1 1 r) (fun (x_2 : Int32) r1 => (if (x_2 = 0) then (0, r1) else (q_st (uf r1 1584 ((r1.1 1584) + 1)) (fun r2 => ((r2.1 1584), r2)))))) := rfl
set_option maxRecDepth 100000 in
set_option maxHeartbeats 4000000 in
theorem qS_changeKey_79 {n : Nat} {Q Post : Int32 → z_Mem → Prop} {t1 : Int32} {o_t0 : Option Nat} {M : z_Mem} {r : q_R} (ho_t0 : o_t0 = some (n + 40)) (S : y_S n M) (R : q_rep n M r) (H : P_X12_changeKey_79 (n + 40) Q o_t0 t1 M) (K : ∀ x M1 r1, Q x M1 → y_S n M1 → q_rep n M1 r1 → qF_changeKey_79 t1 r = (x, r1) → Post x M1) : P_X12_changeKey_79 (n + 40) Post o_t0 t1 M := by
  subst ho_t0
  have hF := qE_changeKey_79 t1 r
  unfold P_X12_changeKey_79 at H ⊢
  replace H := z_nne rfl H
  refine z_nn_of rfl ?_
  refine qS_goes S R H (fun x_2 M_2 r_M_2 H S_M_2 R_M_2 u => ?_)
  replace hF := hF.trans (q_ste2 u)
  refine And.intro (fun c1 => ?_) (fun c1 => ?_)
  · replace H := H.1 c1
    replace hF := hF.trans (if_pos c1)
    exact K _ _ _ H S_M_2 R_M_2 hF
  · replace H := H.2 c1
    replace hF := hF.trans (if_neg c1)
    try simp only [qf_1584 R_M_2] at H ⊢
    intro M_6 e_M_6
    replace H := H M_6 e_M_6
    have S_M_6 : y_S n M_6 := by rw [e_M_6]; exact S_sfi S_M_2
    have R_M_6 := rep_sfi R_M_2 e_M_6
    obtain ⟨r_M_6, h_M_6⟩ := q_gen R_M_6
    replace hF := hF.trans (q_ste h_M_6.2)
    replace R_M_6 := h_M_6.1
    try simp only [qf_1584 R_M_6] at H ⊢
    exact K _ _ _ H S_M_6 R_M_6 hF
set_option maxRecDepth 100000 in
noncomputable def qF_changeKey_78 (r : q_R) : (Int32 × q_R) := (qF_changeKey_79 0 r)
set_option maxRecDepth 100000 in
theorem qE_changeKey_78 (r : q_R) : qF_changeKey_78 r = (qF_changeKey_79 0 r) := rfl
set_option maxRecDepth 100000 in
set_option maxHeartbeats 4000000 in
theorem qS_changeKey_78 {n : Nat} {Q Post : Int32 → z_Mem → Prop} {o_t0 : Option Nat} {M : z_Mem} {r : q_R} (ho_t0 : o_t0 = some (n + 40)) (S : y_S n M) (R : q_rep n M r) (H : P_X12_changeKey_78 (n + 40) Q o_t0 M) (K : ∀ x M1 r1, Q x M1 → y_S n M1 → q_rep n M1 r1 → qF_changeKey_78 r = (x, r1) → Post x M1) : P_X12_changeKey_78 (n + 40) Post o_t0 M := by
  subst ho_t0
  have hF := qE_changeKey_78 r
  unfold P_X12_changeKey_78 at H ⊢
  exact qS_changeKey_79 rfl S R H (fun x M1 r1 q1 q2 q3 u => K x M1 r1 q1 q2 q3 (hF.trans u))
set_option maxRecDepth 100000 in
noncomputable def qB_changeKey_4 (x1 : Int32) (x2 : Int32) (r : q_R) : (Int32 × Int32 × q_R) ⊕ (Int32 × q_R) := (if ((r.1 1606) ≤ x2) then (if ((r.1 1577) = 2) then (if (x1 = 0) then (.inr (qF_changeKey_78 r)) else (.inr (qF_changeKey_79 1 r))) else (.inr (qF_changeKey_78 r))) else (if (x1 = 0) then (if ((r.2 78 (x2 : Int32).toNatClampNeg) = (r.1 1584)) then (if ((r.2 76 (x2 : Int32).toNatClampNeg) = 1) then (qF_changeKey_49 x2 r) else (if ((r.2 76 (x2 : Int32).toNatClampNeg) = 3) then (qF_changeKey_49 x2 r) else (qF_changeKey_53 x2 r))) else (qF_changeKey_53 x2 r)) else (qF_changeKey_49 x2 r)))
set_option maxRecDepth 100000 in
noncomputable def qF_changeKey_4 (x1 : Int32) (x2 : Int32) (r : q_R) : (Int32 × q_R) := q_lp (X := (Int32 × Int32 × q_R)) (Y := (Int32 × q_R)) ((0 : Int32), r) (fun t => qB_changeKey_4 t.1 t.2.1 t.2.2) (x1, x2, r)
set_option maxRecDepth 100000 in
theorem qUl_changeKey_4 {x1 : Int32} {x2 : Int32} {r : q_R} {y_x1 : Int32} {y_x2 : Int32} {r1 : q_R} (h : qB_changeKey_4 x1 x2 r = .inl (y_x1, y_x2, r1)) : qF_changeKey_4 x1 x2 r = qF_changeKey_4 y_x1 y_x2 r1 := q_lpl (step := fun t => qB_changeKey_4 t.1 t.2.1 t.2.2) h
set_option maxRecDepth 100000 in
theorem qUr_changeKey_4 {x1 : Int32} {x2 : Int32} {r : q_R} {y : (Int32 × q_R)} (h : qB_changeKey_4 x1 x2 r = .inr y) : qF_changeKey_4 x1 x2 r = y := q_lpr (step := fun t => qB_changeKey_4 t.1 t.2.1 t.2.2) h
set_option maxRecDepth 100000 in
theorem qE_changeKey_4 (x1 : Int32) (x2 : Int32) (r : q_R) : qB_changeKey_4 x1 x2 r = (if ((r.1 1606) ≤ x2) then (if ((r.1 1577) = 2) then (if (x1 = 0) then (.inr (qF_changeKey_78 r)) else (.inr (qF_changeKey_79 1 r))) else (.inr (qF_changeKey_78 r))) else (if (x1 = 0) then (if ((r.2 78 (x2 : Int32).toNatClampNeg) = (r.1 1584)) then (if ((r.2 76 (x2 : Int32).toNatClampNeg) = 1) then (qF_changeKey_49 x2 r) else (if ((r.2 76 (x2 : Int32).toNatClampNeg) = 3) then (qF_changeKey_49 x2 r) else (qF_changeKey_53 x2 r))) else (qF_changeKey_53 x2 r)) else (qF_changeKey_49 x2 r))) := rfl
set_option maxRecDepth 100000 in
set_option maxHeartbeats 4000000 in
theorem qS_changeKey_4 {n : Nat} {Q Post : Int32 → z_Mem → Prop} : ∀ (m : Nat) {x1 : Int32} {x2 : Int32} {M : z_Mem} {r : q_R} (S : y_S n M) (R : q_rep n M r) (H : P_X12_changeKey_4 (n + 40) Q m x1 x2 M) (K : ∀ x M1 r1, Q x M1 → y_S n M1 → q_rep n M1 r1 → qF_changeKey_4 x1 x2 r = (x, r1) → Post x M1), P_X12_changeKey_4 (n + 40) Post m x1 x2 M := by
  intro m
  induction m with
  | zero => intros; rename_i H _; exact False.elim H
  | succ m ih =>
    intro x1 x2 M r S R H K
    have hF := qE_changeKey_4 x1 x2 r
    unfold P_X12_changeKey_4 at H ⊢
    try simp only [qf_1606 R] at H ⊢
    refine And.intro (fun c1 => ?_) (fun c1 => ?_)
    · replace H := H.1 c1
      replace hF := hF.trans (if_pos c1)
      try simp only [qf_1577 R] at H ⊢
      refine And.intro (fun c2 => ?_) (fun c2 => ?_)
      · replace H := H.1 c2
        replace hF := hF.trans (if_pos c2)
        refine And.intro (fun c3 => ?_) (fun c3 => ?_)
        · replace H := H.1 c3
          replace hF := hF.trans (if_pos c3)
          exact qS_changeKey_78 rfl S R H (fun x M1 r1 q1 q2 q3 u => K x M1 r1 q1 q2 q3 (qUr_changeKey_4 (hF.trans (congrArg Sum.inr u))))
        · replace H := H.2 c3
          replace hF := hF.trans (if_neg c3)
          exact qS_changeKey_79 rfl S R H (fun x M1 r1 q1 q2 q3 u => K x M1 r1 q1 q2 q3 (qUr_changeKey_4 (hF.trans (congrArg Sum.inr u))))
      · replace H := H.2 c2
        replace hF := hF.trans (if_neg c2)
        exact qS_changeKey_78 rfl S R H (fun x M1 r1 q1 q2 q3 u => K x M1 r1 q1 q2 q3 (qUr_changeKey_4 (hF.trans (congrArg Sum.inr u))))
    · replace H := H.2 c1
      replace hF := hF.trans (if_neg c1)
      refine And.intro (fun c4 => ?_) (fun c4 => ?_)
      · replace H := H.1 c4
        replace hF := hF.trans (if_pos c4)
        replace H := z_nne (s_1600_40 S) H
        refine z_nn_of (s_1600_40 S) ?_
        refine And.intro H.1 ?_
        replace H := H.2
        try simp only [qa_78 R, qf_1584 R] at H ⊢
        refine And.intro (fun c5 => ?_) (fun c5 => ?_)
        · replace H := H.1 c5
          replace hF := hF.trans (if_pos c5)
          replace H := z_nne (s_1598_40 S) H
          refine z_nn_of (s_1598_40 S) ?_
          refine And.intro H.1 ?_
          replace H := H.2
          try simp only [qa_76 R] at H ⊢
          refine And.intro (fun c6 => ?_) (fun c6 => ?_)
          · replace H := H.1 c6
            replace hF := hF.trans (if_pos c6)
            exact qS_changeKey_49 S R H (fun x M1 r1 q1 q2 q3 u => K x M1 r1 q1 q2 q3 (qUr_changeKey_4 (hF.trans u))) (fun v0 v1 M1 r1 q1 q2 q3 u => ih q2 q3 q1 (fun x M1 r1 q1 q2 q3 u2 => K x M1 r1 q1 q2 q3 ((qUl_changeKey_4 (hF.trans u)).trans u2))) 
          · replace H := H.2 c6
            replace hF := hF.trans (if_neg c6)
            replace H := z_nne (s_1598_40 S) H
            refine z_nn_of (s_1598_40 S) ?_
            refine And.intro H.1 ?_
            replace H := H.2
            try simp only [qa_76 R] at H ⊢
            refine And.intro (fun c7 => ?_) (fun c7 => ?_)
            · replace H := H.1 c7
              replace hF := hF.trans (if_pos c7)
              exact qS_changeKey_49 S R H (fun x M1 r1 q1 q2 q3 u => K x M1 r1 q1 q2 q3 (qUr_changeKey_4 (hF.trans u))) (fun v0 v1 M1 r1 q1 q2 q3 u => ih q2 q3 q1 (fun x M1 r1 q1 q2 q3 u2 => K x M1 r1 q1 q2 q3 ((qUl_changeKey_4 (hF.trans u)).trans u2))) 
            · replace H := H.2 c7
              replace hF := hF.trans (if_neg c7)
              exact qS_changeKey_53 S R H (fun x M1 r1 q1 q2 q3 u => K x M1 r1 q1 q2 q3 (qUr_changeKey_4 (hF.trans u))) (fun v0 v1 M1 r1 q1 q2 q3 u => ih q2 q3 q1 (fun x M1 r1 q1 q2 q3 u2 => K x M1 r1 q1 q2 q3 ((qUl_changeKey_4 (hF.trans u)).trans u2))) 
        · replace H := H.2 c5
          replace hF := hF.trans (if_neg c5)
          exact qS_changeKey_53 S R H (fun x M1 r1 q1 q2 q3 u => K x M1 r1 q1 q2 q3 (qUr_changeKey_4 (hF.trans u))) (fun v0 v1 M1 r1 q1 q2 q3 u => ih q2 q3 q1 (fun x M1 r1 q1 q2 q3 u2 => K x M1 r1 q1 q2 q3 ((qUl_changeKey_4 (hF.trans u)).trans u2))) 
      · replace H := H.2 c4
        replace hF := hF.trans (if_neg c4)
        exact qS_changeKey_49 S R H (fun x M1 r1 q1 q2 q3 u => K x M1 r1 q1 q2 q3 (qUr_changeKey_4 (hF.trans u))) (fun v0 v1 M1 r1 q1 q2 q3 u => ih q2 q3 q1 (fun x M1 r1 q1 q2 q3 u2 => K x M1 r1 q1 q2 q3 ((qUl_changeKey_4 (hF.trans u)).trans u2))) 
set_option maxRecDepth 100000 in
noncomputable def qF_changeKey (r : q_R) : (Int32 × q_R) := (qF_changeKey_4 0 0 r)
set_option maxRecDepth 100000 in
theorem qE_changeKey (r : q_R) : qF_changeKey r = (qF_changeKey_4 0 0 r) := rfl
set_option maxRecDepth 100000 in
set_option maxHeartbeats 4000000 in
theorem qS_changeKey {n : Nat} {Q Post : Int32 → z_Mem → Prop} {M : z_Mem} {r : q_R} (S : y_S n M) (R : q_rep n M r) (H : P_X12_changeKey (n + 40) M Q) (K : ∀ x M1 r1, Q x M1 → y_S n M1 → q_rep n M1 r1 → qF_changeKey r = (x, r1) → Post x M1) : P_X12_changeKey (n + 40) M Post := by
  have hF := qE_changeKey r
  unfold P_X12_changeKey at H ⊢
  obtain ⟨m, H⟩ := H
  refine ⟨m, ?_⟩
  exact qS_changeKey_4 m S R H (fun x M1 r1 q1 q2 q3 u => K x M1 r1 q1 q2 q3 (hF.trans u))
set_option maxRecDepth 100000 in
noncomputable def qF_close_36 (t1 : Int32) (r : q_R) : q_R := (q_st (qF_puts t1 4 0 r) (fun r1 => (q_st (uf r1 1577 3) (fun r2 => (q_st (uf r2 1582 (r2.1 1536)) (fun r3 => r3))))))
set_option maxRecDepth 100000 in
theorem qE_close_36 (t1 : Int32) (r : q_R) : qF_close_36 t1 r = (q_st (qF_puts t1 4 0 r) (fun r1 => (q_st (uf r1 1577 3) (fun r2 => (q_st (uf r2 1582 (r2.1 1536)) (fun r3 => r3)))))) := rfl
set_option maxRecDepth 100000 in
set_option maxHeartbeats 4000000 in
theorem qS_close_36 {n : Nat} {Q Post : z_Mem → Prop} {t1 : Int32} {o_t0 : Option Nat} {M : z_Mem} {r : q_R} (ho_t0 : o_t0 = some (n + 40)) (S : y_S n M) (R : q_rep n M r) (H : P_X12_close_36 (n + 40) Q o_t0 t1 M) (K : ∀ M1 r1, Q M1 → y_S n M1 → q_rep n M1 r1 → qF_close_36 t1 r = r1 → Post M1) : P_X12_close_36 (n + 40) Post o_t0 t1 M := by
  subst ho_t0
  have hF := qE_close_36 t1 r
  unfold P_X12_close_36 at H ⊢
  replace H := z_nne rfl H
  refine z_nn_of rfl ?_
  refine qS_puts S R H (fun M_1 r_M_1 H S_M_1 R_M_1 u => ?_)
  replace hF := hF.trans (q_ste u.symm)
  intro M_3 e_M_3
  replace H := H M_3 e_M_3
  have S_M_3 : y_S n M_3 := by rw [e_M_3]; exact S_sfi S_M_1
  have R_M_3 := rep_sfi R_M_1 e_M_3
  obtain ⟨r_M_3, h_M_3⟩ := q_gen R_M_3
  replace hF := hF.trans (q_ste h_M_3.2)
  replace R_M_3 := h_M_3.1
  try simp only [qf_1536 R_M_3] at H ⊢
  intro M_5 e_M_5
  replace H := H M_5 e_M_5
  have S_M_5 : y_S n M_5 := by rw [e_M_5]; exact S_sfi S_M_3
  have R_M_5 := rep_sfi R_M_3 e_M_5
  obtain ⟨r_M_5, h_M_5⟩ := q_gen R_M_5
  replace hF := hF.trans (q_ste h_M_5.2)
  replace R_M_5 := h_M_5.1
  exact K _ _ H S_M_5 R_M_5 hF
set_option maxRecDepth 100000 in
noncomputable def qF_close_14 (t1 : Int32) (r : q_R) : q_R := (q_st2 (qF_goes t1 1 1 r) (fun (x_6 : Int32) r1 => (if (x_6 = 0) then r1 else (if ((r1.1 1583) = 1) then (qF_close_36 1 r1) else (qF_close_36 0 r1)))))
set_option maxRecDepth 100000 in
theorem qE_close_14 (t1 : Int32) (r : q_R) : qF_close_14 t1 r = (q_st2 (qF_goes t1 1 1 r) (fun (x_6 : Int32) r1 => (if (x_6 = 0) then r1 else (if ((r1.1 1583) = 1) then (qF_close_36 1 r1) else (qF_close_36 0 r1))))) := rfl
set_option maxRecDepth 100000 in
set_option maxHeartbeats 4000000 in
theorem qS_close_14 {n : Nat} {Q Post : z_Mem → Prop} {t1 : Int32} {o_t0 : Option Nat} {M : z_Mem} {r : q_R} (ho_t0 : o_t0 = some (n + 40)) (S : y_S n M) (R : q_rep n M r) (H : P_X12_close_14 (n + 40) Q o_t0 t1 M) (K : ∀ M1 r1, Q M1 → y_S n M1 → q_rep n M1 r1 → qF_close_14 t1 r = r1 → Post M1) : P_X12_close_14 (n + 40) Post o_t0 t1 M := by
  subst ho_t0
  have hF := qE_close_14 t1 r
  unfold P_X12_close_14 at H ⊢
  replace H := z_nne rfl H
  refine z_nn_of rfl ?_
  refine qS_goes S R H (fun x_6 M_6 r_M_6 H S_M_6 R_M_6 u => ?_)
  replace hF := hF.trans (q_ste2 u)
  refine And.intro (fun c1 => ?_) (fun c1 => ?_)
  · replace H := H.1 c1
    replace hF := hF.trans (if_pos c1)
    exact K _ _ H S_M_6 R_M_6 hF
  · replace H := H.2 c1
    replace hF := hF.trans (if_neg c1)
    try simp only [qf_1583 R_M_6] at H ⊢
    refine And.intro (fun c2 => ?_) (fun c2 => ?_)
    · replace H := H.1 c2
      replace hF := hF.trans (if_pos c2)
      exact qS_close_36 rfl S_M_6 R_M_6 H (fun M1 r1 q1 q2 q3 u => K M1 r1 q1 q2 q3 (hF.trans u))
    · replace H := H.2 c2
      replace hF := hF.trans (if_neg c2)
      exact qS_close_36 rfl S_M_6 R_M_6 H (fun M1 r1 q1 q2 q3 u => K M1 r1 q1 q2 q3 (hF.trans u))
set_option maxRecDepth 100000 in
noncomputable def qF_close (r : q_R) : q_R := (if ((r.1 1577) = 2) then (qF_close_14 1 r) else (qF_close_14 0 r))
set_option maxRecDepth 100000 in
theorem qE_close (r : q_R) : qF_close r = (if ((r.1 1577) = 2) then (qF_close_14 1 r) else (qF_close_14 0 r)) := rfl
set_option maxRecDepth 100000 in
set_option maxHeartbeats 4000000 in
theorem qS_close {n : Nat} {Q Post : z_Mem → Prop} {M : z_Mem} {r : q_R} (S : y_S n M) (R : q_rep n M r) (H : P_X12_close (n + 40) M Q) (K : ∀ M1 r1, Q M1 → y_S n M1 → q_rep n M1 r1 → qF_close r = r1 → Post M1) : P_X12_close (n + 40) M Post := by
  have hF := qE_close r
  unfold P_X12_close at H ⊢
  try simp only [qf_1577 R] at H ⊢
  refine And.intro (fun c1 => ?_) (fun c1 => ?_)
  · replace H := H.1 c1
    replace hF := hF.trans (if_pos c1)
    exact qS_close_14 rfl S R H (fun M1 r1 q1 q2 q3 u => K M1 r1 q1 q2 q3 (hF.trans u))
  · replace H := H.2 c1
    replace hF := hF.trans (if_neg c1)
    exact qS_close_14 rfl S R H (fun M1 r1 q1 q2 q3 u => K M1 r1 q1 q2 q3 (hF.trans u))
set_option maxRecDepth 100000 in
noncomputable def qF_passes_43 (x1 : Int32) (r : q_R) : ((Int32 × q_R) ⊕ q_R) := (q_st (x1 + 1) (fun (x_1 : Int32) => (.inl (x_1, r))))
set_option maxRecDepth 100000 in
theorem qE_passes_43 (x1 : Int32) (r : q_R) : qF_passes_43 x1 r = (q_st (x1 + 1) (fun (x_1 : Int32) => (.inl (x_1, r)))) := rfl
set_option maxRecDepth 100000 in
set_option maxHeartbeats 4000000 in
theorem qS_passes_43 {n : Nat} {Q Post : z_Mem → Prop} {QJ12 PJ12 : Int32 → z_Mem → Prop} {x1 : Int32} {M : z_Mem} {r : q_R} (S : y_S n M) (R : q_rep n M r) (H : P_X12_passes_43 (n + 40) Q QJ12 x1 M) (K : ∀ M1 r1, Q M1 → y_S n M1 → q_rep n M1 r1 → qF_passes_43 x1 r = (.inr r1) → Post M1) (KJ12 : ∀ v0 M1 r1, QJ12 v0 M1 → y_S n M1 → q_rep n M1 r1 → qF_passes_43 x1 r = (.inl (v0, r1)) → PJ12 v0 M1) : P_X12_passes_43 (n + 40) Post PJ12 x1 M := by
  have hF := qE_passes_43 x1 r
  unfold P_X12_passes_43 at H ⊢
  intro x_1 e_x_1
  replace H := H x_1 e_x_1
  replace hF := hF.trans (q_ste e_x_1)
  exact KJ12 _ _ _ H S R hF
set_option maxRecDepth 100000 in
noncomputable def qF_passes_79 (x1 : Int32) (x2 : Int32) (r : q_R) : ((Int32 × Int32 × q_R) ⊕ q_R) := (q_st (x2 + 1) (fun (x_2 : Int32) => (.inl (x1, x_2, r))))
set_option maxRecDepth 100000 in
theorem qE_passes_79 (x1 : Int32) (x2 : Int32) (r : q_R) : qF_passes_79 x1 x2 r = (q_st (x2 + 1) (fun (x_2 : Int32) => (.inl (x1, x_2, r)))) := rfl
set_option maxRecDepth 100000 in
set_option maxHeartbeats 4000000 in
theorem qS_passes_79 {n : Nat} {Q Post : z_Mem → Prop} {QJ56 PJ56 : Int32 → Int32 → z_Mem → Prop} {x1 : Int32} {x2 : Int32} {M : z_Mem} {r : q_R} (S : y_S n M) (R : q_rep n M r) (H : P_X12_passes_79 (n + 40) Q QJ56 x1 x2 M) (K : ∀ M1 r1, Q M1 → y_S n M1 → q_rep n M1 r1 → qF_passes_79 x1 x2 r = (.inr r1) → Post M1) (KJ56 : ∀ v0 v1 M1 r1, QJ56 v0 v1 M1 → y_S n M1 → q_rep n M1 r1 → qF_passes_79 x1 x2 r = (.inl (v0, v1, r1)) → PJ56 v0 v1 M1) : P_X12_passes_79 (n + 40) Post PJ56 x1 x2 M := by
  have hF := qE_passes_79 x1 x2 r
  unfold P_X12_passes_79 at H ⊢
  intro x_2 e_x_2
  replace H := H x_2 e_x_2
  replace hF := hF.trans (q_ste e_x_2)
  exact KJ56 _ _ _ _ H S R hF
set_option maxRecDepth 100000 in
noncomputable def qF_passes_235 (r : q_R) : q_R := (q_st (uf r 1577 (r.1 1577)) (fun r1 => (q_st (qF_sendsAll r1) (fun r2 => (q_st (qF_leaves 0 r2) (fun r3 => (q_st (qF_leaves 1 r3) (fun r4 => r4))))))))
set_option maxRecDepth 100000 in
theorem qE_passes_235 (r : q_R) : qF_passes_235 r = (q_st (uf r 1577 (r.1 1577)) (fun r1 => (q_st (qF_sendsAll r1) (fun r2 => (q_st (qF_leaves 0 r2) (fun r3 => (q_st (qF_leaves 1 r3) (fun r4 => r4)))))))) := rfl
set_option maxRecDepth 100000 in
set_option maxHeartbeats 4000000 in
theorem qS_passes_235 {n : Nat} {Q Post : z_Mem → Prop} {o_t0 : Option Nat} {M : z_Mem} {r : q_R} (ho_t0 : o_t0 = some (n + 40)) (S : y_S n M) (R : q_rep n M r) (H : P_X12_passes_235 (n + 40) Q o_t0 M) (K : ∀ M1 r1, Q M1 → y_S n M1 → q_rep n M1 r1 → qF_passes_235 r = r1 → Post M1) : P_X12_passes_235 (n + 40) Post o_t0 M := by
  subst ho_t0
  have hF := qE_passes_235 r
  unfold P_X12_passes_235 at H ⊢
  replace H := z_nne rfl H
  refine z_nn_of rfl ?_
  try simp only [qf_1577 R] at H ⊢
  intro M_5 e_M_5
  replace H := H M_5 e_M_5
  have S_M_5 : y_S n M_5 := by rw [e_M_5]; exact S_sfi S
  have R_M_5 := rep_sfi R e_M_5
  obtain ⟨r_M_5, h_M_5⟩ := q_gen R_M_5
  replace hF := hF.trans (q_ste h_M_5.2)
  replace R_M_5 := h_M_5.1
  refine qS_sendsAll S_M_5 R_M_5 H (fun M_6 r_M_6 H S_M_6 R_M_6 u => ?_)
  replace hF := hF.trans (q_ste u.symm)
  refine qS_leaves S_M_6 R_M_6 H (fun M_7 r_M_7 H S_M_7 R_M_7 u => ?_)
  replace hF := hF.trans (q_ste u.symm)
  refine qS_leaves S_M_7 R_M_7 H (fun M_8 r_M_8 H S_M_8 R_M_8 u => ?_)
  replace hF := hF.trans (q_ste u.symm)
  exact K _ _ H S_M_8 R_M_8 hF
set_option maxRecDepth 100000 in
noncomputable def qF_passes_208 (r : q_R) : q_R := (if ((r.1 1577) = 3) then (if (((r.1 1536) - (r.1 1582)) < 30) then (qF_passes_235 r) else (q_st (uf r 1577 4) (fun r1 => (q_st (qF_sendsAll r1) (fun r2 => (q_st (qF_leaves 0 r2) (fun r3 => (q_st (qF_leaves 1 r3) (fun r4 => r4))))))))) else (qF_passes_235 r))
set_option maxRecDepth 100000 in
theorem qE_passes_208 (r : q_R) : qF_passes_208 r = (if ((r.1 1577) = 3) then (if (((r.1 1536) - (r.1 1582)) < 30) then (qF_passes_235 r) else (q_st (uf r 1577 4) (fun r1 => (q_st (qF_sendsAll r1) (fun r2 => (q_st (qF_leaves 0 r2) (fun r3 => (q_st (qF_leaves 1 r3) (fun r4 => r4))))))))) else (qF_passes_235 r)) := rfl
set_option maxRecDepth 100000 in
set_option maxHeartbeats 4000000 in
theorem qS_passes_208 {n : Nat} {Q Post : z_Mem → Prop} {M : z_Mem} {r : q_R} (S : y_S n M) (R : q_rep n M r) (H : P_X12_passes_208 (n + 40) Q M) (K : ∀ M1 r1, Q M1 → y_S n M1 → q_rep n M1 r1 → qF_passes_208 r = r1 → Post M1) : P_X12_passes_208 (n + 40) Post M := by
  have hF := qE_passes_208 r
  unfold P_X12_passes_208 at H ⊢
  try simp only [qf_1577 R] at H ⊢
  refine And.intro (fun c1 => ?_) (fun c1 => ?_)
  · replace H := H.1 c1
    replace hF := hF.trans (if_pos c1)
    try simp only [qf_1536 R, qf_1582 R] at H ⊢
    refine And.intro (fun c2 => ?_) (fun c2 => ?_)
    · replace H := H.1 c2
      replace hF := hF.trans (if_pos c2)
      exact qS_passes_235 rfl S R H (fun M1 r1 q1 q2 q3 u => K M1 r1 q1 q2 q3 (hF.trans u))
    · replace H := H.2 c2
      replace hF := hF.trans (if_neg c2)
      intro M_14 e_M_14
      replace H := H M_14 e_M_14
      have S_M_14 : y_S n M_14 := by rw [e_M_14]; exact S_sfi S
      have R_M_14 := rep_sfi R e_M_14
      obtain ⟨r_M_14, h_M_14⟩ := q_gen R_M_14
      replace hF := hF.trans (q_ste h_M_14.2)
      replace R_M_14 := h_M_14.1
      refine qS_sendsAll S_M_14 R_M_14 H (fun M_15 r_M_15 H S_M_15 R_M_15 u => ?_)
      replace hF := hF.trans (q_ste u.symm)
      refine qS_leaves S_M_15 R_M_15 H (fun M_16 r_M_16 H S_M_16 R_M_16 u => ?_)
      replace hF := hF.trans (q_ste u.symm)
      refine qS_leaves S_M_16 R_M_16 H (fun M_17 r_M_17 H S_M_17 R_M_17 u => ?_)
      replace hF := hF.trans (q_ste u.symm)
      exact K _ _ H S_M_17 R_M_17 hF
  · replace H := H.2 c1
    replace hF := hF.trans (if_neg c1)
    exact qS_passes_235 rfl S R H (fun M1 r1 q1 q2 q3 u => K M1 r1 q1 q2 q3 (hF.trans u))
set_option maxRecDepth 100000 in
noncomputable def qF_passes_170 (r : q_R) : q_R := (if ((r.1 1577) = 1) then (if (((r.1 1536) - (r.1 1580)) < (r.1 1581)) then (qF_passes_208 r) else (q_st (uf r 1581 ((r.1 1581) * 2)) (fun r1 => (q_st (qF_saysHello r1) (fun r2 => (qF_passes_208 r2)))))) else (qF_passes_208 r))
set_option maxRecDepth 100000 in
theorem qE_passes_170 (r : q_R) : qF_passes_170 r = (if ((r.1 1577) = 1) then (if (((r.1 1536) - (r.1 1580)) < (r.1 1581)) then (qF_passes_208 r) else (q_st (uf r 1581 ((r.1 1581) * 2)) (fun r1 => (q_st (qF_saysHello r1) (fun r2 => (qF_passes_208 r2)))))) else (qF_passes_208 r)) := rfl
set_option maxRecDepth 100000 in
set_option maxHeartbeats 4000000 in
theorem qS_passes_170 {n : Nat} {Q Post : z_Mem → Prop} {M : z_Mem} {r : q_R} (S : y_S n M) (R : q_rep n M r) (H : P_X12_passes_170 (n + 40) Q M) (K : ∀ M1 r1, Q M1 → y_S n M1 → q_rep n M1 r1 → qF_passes_170 r = r1 → Post M1) : P_X12_passes_170 (n + 40) Post M := by
  have hF := qE_passes_170 r
  unfold P_X12_passes_170 at H ⊢
  try simp only [qf_1577 R] at H ⊢
  refine And.intro (fun c1 => ?_) (fun c1 => ?_)
  · replace H := H.1 c1
    replace hF := hF.trans (if_pos c1)
    try simp only [qf_1536 R, qf_1580 R, qf_1581 R] at H ⊢
    refine And.intro (fun c2 => ?_) (fun c2 => ?_)
    · replace H := H.1 c2
      replace hF := hF.trans (if_pos c2)
      exact qS_passes_208 S R H (fun M1 r1 q1 q2 q3 u => K M1 r1 q1 q2 q3 (hF.trans u))
    · replace H := H.2 c2
      replace hF := hF.trans (if_neg c2)
      try simp only [qf_1581 R] at H ⊢
      intro M_25 e_M_25
      replace H := H M_25 e_M_25
      have S_M_25 : y_S n M_25 := by rw [e_M_25]; exact S_sfi S
      have R_M_25 := rep_sfi R e_M_25
      obtain ⟨r_M_25, h_M_25⟩ := q_gen R_M_25
      replace hF := hF.trans (q_ste h_M_25.2)
      replace R_M_25 := h_M_25.1
      refine qS_saysHello S_M_25 R_M_25 H (fun M_26 r_M_26 H S_M_26 R_M_26 u => ?_)
      replace hF := hF.trans (q_ste u.symm)
      exact qS_passes_208 S_M_26 R_M_26 H (fun M1 r1 q1 q2 q3 u => K M1 r1 q1 q2 q3 (hF.trans u))
  · replace H := H.2 c1
    replace hF := hF.trans (if_neg c1)
    exact qS_passes_208 S R H (fun M1 r1 q1 q2 q3 u => K M1 r1 q1 q2 q3 (hF.trans u))
set_option maxRecDepth 100000 in
noncomputable def qF_passes_150 (r : q_R) : q_R := (q_st (qF_losesByTime 0 r) (fun r1 => (q_st (qF_losesByTime 1 r1) (fun r2 => (q_st (qF_probesOn 0 r2) (fun r3 => (q_st (qF_probesOn 1 r3) (fun r4 => (qF_passes_170 r4)))))))))
set_option maxRecDepth 100000 in
theorem qE_passes_150 (r : q_R) : qF_passes_150 r = (q_st (qF_losesByTime 0 r) (fun r1 => (q_st (qF_losesByTime 1 r1) (fun r2 => (q_st (qF_probesOn 0 r2) (fun r3 => (q_st (qF_probesOn 1 r3) (fun r4 => (qF_passes_170 r4))))))))) := rfl
set_option maxRecDepth 100000 in
set_option maxHeartbeats 4000000 in
theorem qS_passes_150 {n : Nat} {Q Post : z_Mem → Prop} {M : z_Mem} {r : q_R} (S : y_S n M) (R : q_rep n M r) (H : P_X12_passes_150 (n + 40) Q M) (K : ∀ M1 r1, Q M1 → y_S n M1 → q_rep n M1 r1 → qF_passes_150 r = r1 → Post M1) : P_X12_passes_150 (n + 40) Post M := by
  have hF := qE_passes_150 r
  unfold P_X12_passes_150 at H ⊢
  refine qS_losesByTime S R H (fun M_27 r_M_27 H S_M_27 R_M_27 u => ?_)
  replace hF := hF.trans (q_ste u.symm)
  refine qS_losesByTime S_M_27 R_M_27 H (fun M_28 r_M_28 H S_M_28 R_M_28 u => ?_)
  replace hF := hF.trans (q_ste u.symm)
  refine qS_probesOn S_M_28 R_M_28 H (fun M_29 r_M_29 H S_M_29 R_M_29 u => ?_)
  replace hF := hF.trans (q_ste u.symm)
  refine qS_probesOn S_M_29 R_M_29 H (fun M_30 r_M_30 H S_M_30 R_M_30 u => ?_)
  replace hF := hF.trans (q_ste u.symm)
  exact qS_passes_170 S_M_30 R_M_30 H (fun M1 r1 q1 q2 q3 u => K M1 r1 q1 q2 q3 (hF.trans u))
set_option maxRecDepth 100000 in
noncomputable def qF_passes_134 (r : q_R) : q_R := (if ((r.1 1577) = 1) then (qF_passes_150 r) else (if ((r.1 1577) = 2) then (qF_passes_150 r) else (qF_passes_170 r)))
set_option maxRecDepth 100000 in
theorem qE_passes_134 (r : q_R) : qF_passes_134 r = (if ((r.1 1577) = 1) then (qF_passes_150 r) else (if ((r.1 1577) = 2) then (qF_passes_150 r) else (qF_passes_170 r))) := rfl
set_option maxRecDepth 100000 in
set_option maxHeartbeats 4000000 in
theorem qS_passes_134 {n : Nat} {Q Post : z_Mem → Prop} {M : z_Mem} {r : q_R} (S : y_S n M) (R : q_rep n M r) (H : P_X12_passes_134 (n + 40) Q M) (K : ∀ M1 r1, Q M1 → y_S n M1 → q_rep n M1 r1 → qF_passes_134 r = r1 → Post M1) : P_X12_passes_134 (n + 40) Post M := by
  have hF := qE_passes_134 r
  unfold P_X12_passes_134 at H ⊢
  try simp only [qf_1577 R] at H ⊢
  refine And.intro (fun c1 => ?_) (fun c1 => ?_)
  · replace H := H.1 c1
    replace hF := hF.trans (if_pos c1)
    exact qS_passes_150 S R H (fun M1 r1 q1 q2 q3 u => K M1 r1 q1 q2 q3 (hF.trans u))
  · replace H := H.2 c1
    replace hF := hF.trans (if_neg c1)
    try simp only [qf_1577 R] at H ⊢
    refine And.intro (fun c2 => ?_) (fun c2 => ?_)
    · replace H := H.1 c2
      replace hF := hF.trans (if_pos c2)
      exact qS_passes_150 S R H (fun M1 r1 q1 q2 q3 u => K M1 r1 q1 q2 q3 (hF.trans u))
    · replace H := H.2 c2
      replace hF := hF.trans (if_neg c2)
      exact qS_passes_170 S R H (fun M1 r1 q1 q2 q3 u => K M1 r1 q1 q2 q3 (hF.trans u))
set_option maxRecDepth 100000 in
noncomputable def qF_passes_130 (r : q_R) : q_R := (q_st (qF_acknowledges r) (fun r1 => (qF_passes_134 r1)))
set_option maxRecDepth 100000 in
theorem qE_passes_130 (r : q_R) : qF_passes_130 r = (q_st (qF_acknowledges r) (fun r1 => (qF_passes_134 r1))) := rfl
set_option maxRecDepth 100000 in
set_option maxHeartbeats 4000000 in
theorem qS_passes_130 {n : Nat} {Q Post : z_Mem → Prop} {M : z_Mem} {r : q_R} (S : y_S n M) (R : q_rep n M r) (H : P_X12_passes_130 (n + 40) Q M) (K : ∀ M1 r1, Q M1 → y_S n M1 → q_rep n M1 r1 → qF_passes_130 r = r1 → Post M1) : P_X12_passes_130 (n + 40) Post M := by
  have hF := qE_passes_130 r
  unfold P_X12_passes_130 at H ⊢
  refine qS_acknowledges S R H (fun M_35 r_M_35 H S_M_35 R_M_35 u => ?_)
  replace hF := hF.trans (q_ste u.symm)
  exact qS_passes_134 S_M_35 R_M_35 H (fun M1 r1 q1 q2 q3 u => K M1 r1 q1 q2 q3 (hF.trans u))
set_option maxRecDepth 100000 in
noncomputable def qF_passes_120 (r : q_R) : q_R := (if (((r.1 1536) - (((r.1 1536) / 20) * 20)) = 0) then (qF_passes_130 r) else (qF_passes_134 r))
set_option maxRecDepth 100000 in
theorem qE_passes_120 (r : q_R) : qF_passes_120 r = (if (((r.1 1536) - (((r.1 1536) / 20) * 20)) = 0) then (qF_passes_130 r) else (qF_passes_134 r)) := rfl
set_option maxRecDepth 100000 in
set_option maxHeartbeats 4000000 in
theorem qS_passes_120 {n : Nat} {Q Post : z_Mem → Prop} {M : z_Mem} {r : q_R} (S : y_S n M) (R : q_rep n M r) (H : P_X12_passes_120 (n + 40) Q M) (K : ∀ M1 r1, Q M1 → y_S n M1 → q_rep n M1 r1 → qF_passes_120 r = r1 → Post M1) : P_X12_passes_120 (n + 40) Post M := by
  have hF := qE_passes_120 r
  unfold P_X12_passes_120 at H ⊢
  try simp only [qf_1536 R] at H ⊢
  refine And.intro (fun c1 => ?_) (fun c1 => ?_)
  · replace H := H.1 c1
    replace hF := hF.trans (if_pos c1)
    exact qS_passes_130 S R H (fun M1 r1 q1 q2 q3 u => K M1 r1 q1 q2 q3 (hF.trans u))
  · replace H := H.2 c1
    replace hF := hF.trans (if_neg c1)
    exact qS_passes_134 S R H (fun M1 r1 q1 q2 q3 u => K M1 r1 q1 q2 q3 (hF.trans u))
set_option maxRecDepth 100000 in
noncomputable def qB_passes_56 (x1 : Int32) (x2 : Int32) (r : q_R) : (Int32 × Int32 × q_R) ⊕ q_R := (if (x1 ≤ x2) then (if ((r.1 1562) = 1) then (if ((r.1 1575) = (-1)) then (.inr (qF_passes_134 r)) else (if ((r.1 1574) = (-1)) then (.inr (qF_passes_120 r)) else (if ((r.1 1574) ≤ (r.1 1536)) then (.inr (qF_passes_130 r)) else (.inr (qF_passes_120 r))))) else (.inr (qF_passes_134 r))) else (if ((r.2 60 (x2 : Int32).toNatClampNeg) = (r.1 1536)) then (q_st (qF_arrivesAtClient x2 r) (fun r1 => (qF_passes_79 x1 x2 r1))) else (qF_passes_79 x1 x2 r)))
set_option maxRecDepth 100000 in
noncomputable def qF_passes_56 (x1 : Int32) (x2 : Int32) (r : q_R) : q_R := q_lp (X := (Int32 × Int32 × q_R)) (Y := q_R) r (fun t => qB_passes_56 t.1 t.2.1 t.2.2) (x1, x2, r)
set_option maxRecDepth 100000 in
theorem qUl_passes_56 {x1 : Int32} {x2 : Int32} {r : q_R} {y_x1 : Int32} {y_x2 : Int32} {r1 : q_R} (h : qB_passes_56 x1 x2 r = .inl (y_x1, y_x2, r1)) : qF_passes_56 x1 x2 r = qF_passes_56 y_x1 y_x2 r1 := q_lpl (step := fun t => qB_passes_56 t.1 t.2.1 t.2.2) h
set_option maxRecDepth 100000 in
theorem qUr_passes_56 {x1 : Int32} {x2 : Int32} {r : q_R} {y : q_R} (h : qB_passes_56 x1 x2 r = .inr y) : qF_passes_56 x1 x2 r = y := q_lpr (step := fun t => qB_passes_56 t.1 t.2.1 t.2.2) h
set_option maxRecDepth 100000 in
theorem qE_passes_56 (x1 : Int32) (x2 : Int32) (r : q_R) : qB_passes_56 x1 x2 r = (if (x1 ≤ x2) then (if ((r.1 1562) = 1) then (if ((r.1 1575) = (-1)) then (.inr (qF_passes_134 r)) else (if ((r.1 1574) = (-1)) then (.inr (qF_passes_120 r)) else (if ((r.1 1574) ≤ (r.1 1536)) then (.inr (qF_passes_130 r)) else (.inr (qF_passes_120 r))))) else (.inr (qF_passes_134 r))) else (if ((r.2 60 (x2 : Int32).toNatClampNeg) = (r.1 1536)) then (q_st (qF_arrivesAtClient x2 r) (fun r1 => (qF_passes_79 x1 x2 r1))) else (qF_passes_79 x1 x2 r))) := rfl
set_option maxRecDepth 100000 in
set_option maxHeartbeats 4000000 in
theorem qS_passes_56 {n : Nat} {Q Post : z_Mem → Prop} : ∀ (m : Nat) {x1 : Int32} {x2 : Int32} {M : z_Mem} {r : q_R} (S : y_S n M) (R : q_rep n M r) (H : P_X12_passes_56 (n + 40) Q m x1 x2 M) (K : ∀ M1 r1, Q M1 → y_S n M1 → q_rep n M1 r1 → qF_passes_56 x1 x2 r = r1 → Post M1), P_X12_passes_56 (n + 40) Post m x1 x2 M := by
  intro m
  induction m with
  | zero => intros; rename_i H _; exact False.elim H
  | succ m ih =>
    intro x1 x2 M r S R H K
    have hF := qE_passes_56 x1 x2 r
    unfold P_X12_passes_56 at H ⊢
    refine And.intro (fun c1 => ?_) (fun c1 => ?_)
    · replace H := H.1 c1
      replace hF := hF.trans (if_pos c1)
      try simp only [qf_1562 R] at H ⊢
      refine And.intro (fun c2 => ?_) (fun c2 => ?_)
      · replace H := H.1 c2
        replace hF := hF.trans (if_pos c2)
        try simp only [qf_1575 R] at H ⊢
        refine And.intro (fun c3 => ?_) (fun c3 => ?_)
        · replace H := H.1 c3
          replace hF := hF.trans (if_pos c3)
          exact qS_passes_134 S R H (fun M1 r1 q1 q2 q3 u => K M1 r1 q1 q2 q3 (qUr_passes_56 (hF.trans (congrArg Sum.inr u))))
        · replace H := H.2 c3
          replace hF := hF.trans (if_neg c3)
          try simp only [qf_1574 R] at H ⊢
          refine And.intro (fun c4 => ?_) (fun c4 => ?_)
          · replace H := H.1 c4
            replace hF := hF.trans (if_pos c4)
            exact qS_passes_120 S R H (fun M1 r1 q1 q2 q3 u => K M1 r1 q1 q2 q3 (qUr_passes_56 (hF.trans (congrArg Sum.inr u))))
          · replace H := H.2 c4
            replace hF := hF.trans (if_neg c4)
            try simp only [qf_1536 R, qf_1574 R] at H ⊢
            refine And.intro (fun c5 => ?_) (fun c5 => ?_)
            · replace H := H.1 c5
              replace hF := hF.trans (if_pos c5)
              exact qS_passes_130 S R H (fun M1 r1 q1 q2 q3 u => K M1 r1 q1 q2 q3 (qUr_passes_56 (hF.trans (congrArg Sum.inr u))))
            · replace H := H.2 c5
              replace hF := hF.trans (if_neg c5)
              exact qS_passes_120 S R H (fun M1 r1 q1 q2 q3 u => K M1 r1 q1 q2 q3 (qUr_passes_56 (hF.trans (congrArg Sum.inr u))))
      · replace H := H.2 c2
        replace hF := hF.trans (if_neg c2)
        exact qS_passes_134 S R H (fun M1 r1 q1 q2 q3 u => K M1 r1 q1 q2 q3 (qUr_passes_56 (hF.trans (congrArg Sum.inr u))))
    · replace H := H.2 c1
      replace hF := hF.trans (if_neg c1)
      replace H := z_nne (s_1558_40 S) H
      refine z_nn_of (s_1558_40 S) ?_
      refine And.intro H.1 ?_
      replace H := H.2
      try simp only [qa_60 R, qf_1536 R] at H ⊢
      refine And.intro (fun c6 => ?_) (fun c6 => ?_)
      · replace H := H.1 c6
        replace hF := hF.trans (if_pos c6)
        refine qS_arrivesAtClient S R H (fun M_53 r_M_53 H S_M_53 R_M_53 u => ?_)
        replace hF := hF.trans (q_ste u.symm)
        exact qS_passes_79 S_M_53 R_M_53 H (fun M1 r1 q1 q2 q3 u => K M1 r1 q1 q2 q3 (qUr_passes_56 (hF.trans u))) (fun v0 v1 M1 r1 q1 q2 q3 u => ih q2 q3 q1 (fun M1 r1 q1 q2 q3 u2 => K M1 r1 q1 q2 q3 ((qUl_passes_56 (hF.trans u)).trans u2))) 
      · replace H := H.2 c6
        replace hF := hF.trans (if_neg c6)
        exact qS_passes_79 S R H (fun M1 r1 q1 q2 q3 u => K M1 r1 q1 q2 q3 (qUr_passes_56 (hF.trans u))) (fun v0 v1 M1 r1 q1 q2 q3 u => ih q2 q3 q1 (fun M1 r1 q1 q2 q3 u2 => K M1 r1 q1 q2 q3 ((qUl_passes_56 (hF.trans u)).trans u2))) 
set_option maxRecDepth 100000 in
noncomputable def qB_passes_12 (x1 : Int32) (r : q_R) : (Int32 × q_R) ⊕ q_R := (if ((r.1 1554) ≤ x1) then (q_st (r.1 1559) (fun (x_57 : Int32) => (.inr (qF_passes_56 x_57 0 r)))) else (if ((r.2 56 (x1 : Int32).toNatClampNeg) = (r.1 1536)) then (q_st (qF_arrivesAtServer (r.2 55 (x1 : Int32).toNatClampNeg) r) (fun r1 => (qF_passes_43 x1 r1))) else (qF_passes_43 x1 r)))
set_option maxRecDepth 100000 in
noncomputable def qF_passes_12 (x1 : Int32) (r : q_R) : q_R := q_lp (X := (Int32 × q_R)) (Y := q_R) r (fun t => qB_passes_12 t.1 t.2) (x1, r)
set_option maxRecDepth 100000 in
theorem qUl_passes_12 {x1 : Int32} {r : q_R} {y_x1 : Int32} {r1 : q_R} (h : qB_passes_12 x1 r = .inl (y_x1, r1)) : qF_passes_12 x1 r = qF_passes_12 y_x1 r1 := q_lpl (step := fun t => qB_passes_12 t.1 t.2) h
set_option maxRecDepth 100000 in
theorem qUr_passes_12 {x1 : Int32} {r : q_R} {y : q_R} (h : qB_passes_12 x1 r = .inr y) : qF_passes_12 x1 r = y := q_lpr (step := fun t => qB_passes_12 t.1 t.2) h
set_option maxRecDepth 100000 in
theorem qE_passes_12 (x1 : Int32) (r : q_R) : qB_passes_12 x1 r = (if ((r.1 1554) ≤ x1) then (q_st (r.1 1559) (fun (x_57 : Int32) => (.inr (qF_passes_56 x_57 0 r)))) else (if ((r.2 56 (x1 : Int32).toNatClampNeg) = (r.1 1536)) then (q_st (qF_arrivesAtServer (r.2 55 (x1 : Int32).toNatClampNeg) r) (fun r1 => (qF_passes_43 x1 r1))) else (qF_passes_43 x1 r))) := rfl
set_option maxRecDepth 100000 in
set_option maxHeartbeats 4000000 in
theorem qS_passes_12 {n : Nat} {Q Post : z_Mem → Prop} : ∀ (m : Nat) {x1 : Int32} {M : z_Mem} {r : q_R} (S : y_S n M) (R : q_rep n M r) (H : P_X12_passes_12 (n + 40) Q m x1 M) (K : ∀ M1 r1, Q M1 → y_S n M1 → q_rep n M1 r1 → qF_passes_12 x1 r = r1 → Post M1), P_X12_passes_12 (n + 40) Post m x1 M := by
  intro m
  induction m with
  | zero => intros; rename_i H _; exact False.elim H
  | succ m ih =>
    intro x1 M r S R H K
    have hF := qE_passes_12 x1 r
    unfold P_X12_passes_12 at H ⊢
    try simp only [qf_1554 R] at H ⊢
    refine And.intro (fun c1 => ?_) (fun c1 => ?_)
    · replace H := H.1 c1
      replace hF := hF.trans (if_pos c1)
      try simp only [qf_1559 R] at H ⊢
      intro x_57 e_x_57
      replace H := H x_57 e_x_57
      replace hF := hF.trans (q_ste e_x_57)
      obtain ⟨m, H⟩ := H
      refine ⟨m, ?_⟩
      exact qS_passes_56 m S R H (fun M1 r1 q1 q2 q3 u => K M1 r1 q1 q2 q3 (qUr_passes_12 (hF.trans (congrArg Sum.inr u))))
    · replace H := H.2 c1
      replace hF := hF.trans (if_neg c1)
      replace H := z_nne (s_1553_40 S) H
      refine z_nn_of (s_1553_40 S) ?_
      refine And.intro H.1 ?_
      replace H := H.2
      try simp only [qa_56 R, qf_1536 R] at H ⊢
      refine And.intro (fun c2 => ?_) (fun c2 => ?_)
      · replace H := H.1 c2
        replace hF := hF.trans (if_pos c2)
        replace H := z_nne (s_1552_40 S) H
        refine z_nn_of (s_1552_40 S) ?_
        refine And.intro H.1 ?_
        replace H := H.2
        try simp only [qa_55 R] at H ⊢
        refine qS_arrivesAtServer S R H (fun M_67 r_M_67 H S_M_67 R_M_67 u => ?_)
        replace hF := hF.trans (q_ste u.symm)
        exact qS_passes_43 S_M_67 R_M_67 H (fun M1 r1 q1 q2 q3 u => K M1 r1 q1 q2 q3 (qUr_passes_12 (hF.trans u))) (fun v0 M1 r1 q1 q2 q3 u => ih q2 q3 q1 (fun M1 r1 q1 q2 q3 u2 => K M1 r1 q1 q2 q3 ((qUl_passes_12 (hF.trans u)).trans u2))) 
      · replace H := H.2 c2
        replace hF := hF.trans (if_neg c2)
        exact qS_passes_43 S R H (fun M1 r1 q1 q2 q3 u => K M1 r1 q1 q2 q3 (qUr_passes_12 (hF.trans u))) (fun v0 M1 r1 q1 q2 q3 u => ih q2 q3 q1 (fun M1 r1 q1 q2 q3 u2 => K M1 r1 q1 q2 q3 ((qUl_passes_12 (hF.trans u)).trans u2))) 
set_option maxRecDepth 100000 in
noncomputable def qF_passes (r : q_R) : q_R := (q_st (uf r 1536 ((r.1 1536) + 1)) (fun r1 => (qF_passes_12 0 r1)))
set_option maxRecDepth 100000 in
theorem qE_passes (r : q_R) : qF_passes r = (q_st (uf r 1536 ((r.1 1536) + 1)) (fun r1 => (qF_passes_12 0 r1))) := rfl
set_option maxRecDepth 100000 in
set_option maxHeartbeats 4000000 in
theorem qS_passes {n : Nat} {Q Post : z_Mem → Prop} {M : z_Mem} {r : q_R} (S : y_S n M) (R : q_rep n M r) (H : P_X12_passes (n + 40) M Q) (K : ∀ M1 r1, Q M1 → y_S n M1 → q_rep n M1 r1 → qF_passes r = r1 → Post M1) : P_X12_passes (n + 40) M Post := by
  have hF := qE_passes r
  unfold P_X12_passes at H ⊢
  try simp only [qf_1536 R] at H ⊢
  intro M_69 e_M_69
  replace H := H M_69 e_M_69
  have S_M_69 : y_S n M_69 := by rw [e_M_69]; exact S_sfi S
  have R_M_69 := rep_sfi R e_M_69
  obtain ⟨r_M_69, h_M_69⟩ := q_gen R_M_69
  replace hF := hF.trans (q_ste h_M_69.2)
  replace R_M_69 := h_M_69.1
  obtain ⟨m, H⟩ := H
  refine ⟨m, ?_⟩
  exact qS_passes_12 m S_M_69 R_M_69 H (fun M1 r1 q1 q2 q3 u => K M1 r1 q1 q2 q3 (hF.trans u))
set_option maxRecDepth 100000 in
noncomputable def qB_tick_36 (x1 : Int32) (x2 : Int32) (r : q_R) : (Int32 × Int32 × q_R) ⊕ (Int32 × q_R) := (if (x1 ≤ x2) then (.inr ((r.1 1536), r)) else (q_st (qF_passes r) (fun r1 => (q_st (x2 + 1) (fun (x_4 : Int32) => (.inl (x1, x_4, r1)))))))
set_option maxRecDepth 100000 in
noncomputable def qF_tick_36 (x1 : Int32) (x2 : Int32) (r : q_R) : (Int32 × q_R) := q_lp (X := (Int32 × Int32 × q_R)) (Y := (Int32 × q_R)) ((0 : Int32), r) (fun t => qB_tick_36 t.1 t.2.1 t.2.2) (x1, x2, r)
set_option maxRecDepth 100000 in
theorem qUl_tick_36 {x1 : Int32} {x2 : Int32} {r : q_R} {y_x1 : Int32} {y_x2 : Int32} {r1 : q_R} (h : qB_tick_36 x1 x2 r = .inl (y_x1, y_x2, r1)) : qF_tick_36 x1 x2 r = qF_tick_36 y_x1 y_x2 r1 := q_lpl (step := fun t => qB_tick_36 t.1 t.2.1 t.2.2) h
set_option maxRecDepth 100000 in
theorem qUr_tick_36 {x1 : Int32} {x2 : Int32} {r : q_R} {y : (Int32 × q_R)} (h : qB_tick_36 x1 x2 r = .inr y) : qF_tick_36 x1 x2 r = y := q_lpr (step := fun t => qB_tick_36 t.1 t.2.1 t.2.2) h
set_option maxRecDepth 100000 in
theorem qE_tick_36 (x1 : Int32) (x2 : Int32) (r : q_R) : qB_tick_36 x1 x2 r = (if (x1 ≤ x2) then (.inr ((r.1 1536), r)) else (q_st (qF_passes r) (fun r1 => (q_st (x2 + 1) (fun (x_4 : Int32) => (.inl (x1, x_4, r1))))))) := rfl
set_option maxRecDepth 100000 in
set_option maxHeartbeats 4000000 in
theorem qS_tick_36 {n : Nat} {Q Post : Int32 → z_Mem → Prop} : ∀ (m : Nat) {x1 : Int32} {x2 : Int32} {M : z_Mem} {r : q_R} (S : y_S n M) (R : q_rep n M r) (H : P_X12_tick_36 (n + 40) Q m x1 x2 M) (K : ∀ x M1 r1, Q x M1 → y_S n M1 → q_rep n M1 r1 → qF_tick_36 x1 x2 r = (x, r1) → Post x M1), P_X12_tick_36 (n + 40) Post m x1 x2 M := by
  intro m
  induction m with
  | zero => intros; rename_i H _; exact False.elim H
  | succ m ih =>
    intro x1 x2 M r S R H K
    have hF := qE_tick_36 x1 x2 r
    unfold P_X12_tick_36 at H ⊢
    refine And.intro (fun c1 => ?_) (fun c1 => ?_)
    · replace H := H.1 c1
      replace hF := hF.trans (if_pos c1)
      try simp only [qf_1536 R] at H ⊢
      exact K _ _ _ H S R (qUr_tick_36 hF)
    · replace H := H.2 c1
      replace hF := hF.trans (if_neg c1)
      refine qS_passes S R H (fun M_3 r_M_3 H S_M_3 R_M_3 u => ?_)
      replace hF := hF.trans (q_ste u.symm)
      intro x_4 e_x_4
      replace H := H x_4 e_x_4
      replace hF := hF.trans (q_ste e_x_4)
      replace hF := qUl_tick_36 hF
      exact ih S_M_3 R_M_3 H (fun x M1 r1 q1 q2 q3 u => K x M1 r1 q1 q2 q3 (hF.trans u))
set_option maxRecDepth 100000 in
noncomputable def qF_tick_25 (x1 : Int32) (t1 : Int32) (t2 : Int32) (r : q_R) : (Int32 × q_R) := (q_st2 (qF_goes t1 t2 1 r) (fun (x_5 : Int32) r1 => (if (x_5 = 0) then (0, r1) else (qF_tick_36 x1 0 r1))))
set_option maxRecDepth 100000 in
theorem qE_tick_25 (x1 : Int32) (t1 : Int32) (t2 : Int32) (r : q_R) : qF_tick_25 x1 t1 t2 r = (q_st2 (qF_goes t1 t2 1 r) (fun (x_5 : Int32) r1 => (if (x_5 = 0) then (0, r1) else (qF_tick_36 x1 0 r1)))) := rfl
set_option maxRecDepth 100000 in
set_option maxHeartbeats 4000000 in
theorem qS_tick_25 {n : Nat} {Q Post : Int32 → z_Mem → Prop} {x1 : Int32} {t1 : Int32} {t2 : Int32} {o_t0 : Option Nat} {M : z_Mem} {r : q_R} (ho_t0 : o_t0 = some (n + 40)) (S : y_S n M) (R : q_rep n M r) (H : P_X12_tick_25 (n + 40) Q x1 o_t0 t1 t2 M) (K : ∀ x M1 r1, Q x M1 → y_S n M1 → q_rep n M1 r1 → qF_tick_25 x1 t1 t2 r = (x, r1) → Post x M1) : P_X12_tick_25 (n + 40) Post x1 o_t0 t1 t2 M := by
  subst ho_t0
  have hF := qE_tick_25 x1 t1 t2 r
  unfold P_X12_tick_25 at H ⊢
  replace H := z_nne rfl H
  refine z_nn_of rfl ?_
  refine qS_goes S R H (fun x_5 M_5 r_M_5 H S_M_5 R_M_5 u => ?_)
  replace hF := hF.trans (q_ste2 u)
  refine And.intro (fun c1 => ?_) (fun c1 => ?_)
  · replace H := H.1 c1
    replace hF := hF.trans (if_pos c1)
    exact K _ _ _ H S_M_5 R_M_5 hF
  · replace H := H.2 c1
    replace hF := hF.trans (if_neg c1)
    obtain ⟨m, H⟩ := H
    refine ⟨m, ?_⟩
    exact qS_tick_36 m S_M_5 R_M_5 H (fun x M1 r1 q1 q2 q3 u => K x M1 r1 q1 q2 q3 (hF.trans u))
set_option maxRecDepth 100000 in
noncomputable def qF_tick (p1 : Int32) (r : q_R) : (Int32 × q_R) := (q_st2 (qF_in p1 1 50 r) (fun (x_9 : Int32) r1 => (if (2000 < ((r1.1 1536) + p1)) then (qF_tick_25 p1 x_9 0 r1) else (qF_tick_25 p1 x_9 1 r1))))
set_option maxRecDepth 100000 in
theorem qE_tick (p1 : Int32) (r : q_R) : qF_tick p1 r = (q_st2 (qF_in p1 1 50 r) (fun (x_9 : Int32) r1 => (if (2000 < ((r1.1 1536) + p1)) then (qF_tick_25 p1 x_9 0 r1) else (qF_tick_25 p1 x_9 1 r1)))) := rfl
set_option maxRecDepth 100000 in
set_option maxHeartbeats 4000000 in
theorem qS_tick {n : Nat} {Q Post : Int32 → z_Mem → Prop} {p1 : Int32} {M : z_Mem} {r : q_R} (S : y_S n M) (R : q_rep n M r) (H : P_X12_tick (n + 40) p1 M Q) (K : ∀ x M1 r1, Q x M1 → y_S n M1 → q_rep n M1 r1 → qF_tick p1 r = (x, r1) → Post x M1) : P_X12_tick (n + 40) p1 M Post := by
  have hF := qE_tick p1 r
  unfold P_X12_tick at H ⊢
  refine qS_in S R H (fun x_9 M_9 r_M_9 H S_M_9 R_M_9 u => ?_)
  replace hF := hF.trans (q_ste2 u)
  try simp only [qf_1536 R_M_9] at H ⊢
  refine And.intro (fun c1 => ?_) (fun c1 => ?_)
  · replace H := H.1 c1
    replace hF := hF.trans (if_pos c1)
    exact qS_tick_25 rfl S_M_9 R_M_9 H (fun x M1 r1 q1 q2 q3 u => K x M1 r1 q1 q2 q3 (hF.trans u))
  · replace H := H.2 c1
    replace hF := hF.trans (if_neg c1)
    exact qS_tick_25 rfl S_M_9 R_M_9 H (fun x M1 r1 q1 q2 q3 u => K x M1 r1 q1 q2 q3 (hF.trans u))
