/-! ===== THE REFERENCE as functions on its cells, 4 ===== -/
set_option maxRecDepth 100000 in
noncomputable def qB_hearsAck_271 (x5 : Int32) (r : q_R) : (Int32 × q_R) ⊕ q_R := (if (2 ≤ x5) then (.inr r) else (q_st (qF_losesByOrder x5 r) (fun r1 => (q_st (qF_losesByTime x5 r1) (fun r2 => (q_st (x5 + 1) (fun (x_11 : Int32) => (.inl (x_11, r2)))))))))
set_option maxRecDepth 100000 in
noncomputable def qF_hearsAck_271 (x5 : Int32) (r : q_R) : q_R := q_lp (X := (Int32 × q_R)) (Y := q_R) r (fun t => qB_hearsAck_271 t.1 t.2) (x5, r)
set_option maxRecDepth 100000 in
theorem qUl_hearsAck_271 {x5 : Int32} {r : q_R} {y_x5 : Int32} {r1 : q_R} (h : qB_hearsAck_271 x5 r = .inl (y_x5, r1)) : qF_hearsAck_271 x5 r = qF_hearsAck_271 y_x5 r1 := q_lpl (step := fun t => qB_hearsAck_271 t.1 t.2) h
set_option maxRecDepth 100000 in
theorem qUr_hearsAck_271 {x5 : Int32} {r : q_R} {y : q_R} (h : qB_hearsAck_271 x5 r = .inr y) : qF_hearsAck_271 x5 r = y := q_lpr (step := fun t => qB_hearsAck_271 t.1 t.2) h
set_option maxRecDepth 100000 in
theorem qE_hearsAck_271 (x5 : Int32) (r : q_R) : qB_hearsAck_271 x5 r = (if (2 ≤ x5) then (.inr r) else (q_st (qF_losesByOrder x5 r) (fun r1 => (q_st (qF_losesByTime x5 r1) (fun r2 => (q_st (x5 + 1) (fun (x_11 : Int32) => (.inl (x_11, r2))))))))) := rfl
set_option maxRecDepth 100000 in
set_option maxHeartbeats 4000000 in
theorem qS_hearsAck_271 {n : Nat} {Q Post : z_Mem → Prop} : ∀ (m : Nat) {x5 : Int32} {M : z_Mem} {r : q_R} (S : y_S n M) (R : q_rep n M r) (H : P_X12_hearsAck_271 (n + 40) Q m x5 M) (K : ∀ M1 r1, Q M1 → y_S n M1 → q_rep n M1 r1 → qF_hearsAck_271 x5 r = r1 → Post M1), P_X12_hearsAck_271 (n + 40) Post m x5 M := by
  intro m
  induction m with
  | zero => intros; rename_i H _; exact False.elim H
  | succ m ih =>
    intro x5 M r S R H K
    have hF := qE_hearsAck_271 x5 r
    unfold P_X12_hearsAck_271 at H ⊢
    refine And.intro (fun c1 => ?_) (fun c1 => ?_)
    · replace H := H.1 c1
      replace hF := hF.trans (if_pos c1)
      exact K _ _ H S R (qUr_hearsAck_271 hF)
    · replace H := H.2 c1
      replace hF := hF.trans (if_neg c1)
      refine qS_losesByOrder S R H (fun M_9 r_M_9 H S_M_9 R_M_9 u => ?_)
      replace hF := hF.trans (q_ste u.symm)
      refine qS_losesByTime S_M_9 R_M_9 H (fun M_10 r_M_10 H S_M_10 R_M_10 u => ?_)
      replace hF := hF.trans (q_ste u.symm)
      intro x_11 e_x_11
      replace H := H x_11 e_x_11
      replace hF := hF.trans (q_ste e_x_11)
      replace hF := qUl_hearsAck_271 hF
      exact ih S_M_10 R_M_10 H (fun M1 r1 q1 q2 q3 u => K M1 r1 q1 q2 q3 (hF.trans u))
set_option maxRecDepth 100000 in
noncomputable def qB_hearsAck_248 (x5 : Int32) (r : q_R) : (Int32 × q_R) ⊕ q_R := (if (2 ≤ x5) then (.inr (qF_hearsAck_271 0 r)) else (q_st (ua r 96 (x5 : Int32).toNatClampNeg 0) (fun r1 => (q_st (x5 + 1) (fun (x_18 : Int32) => (.inl (x_18, r1)))))))
set_option maxRecDepth 100000 in
noncomputable def qF_hearsAck_248 (x5 : Int32) (r : q_R) : q_R := q_lp (X := (Int32 × q_R)) (Y := q_R) r (fun t => qB_hearsAck_248 t.1 t.2) (x5, r)
set_option maxRecDepth 100000 in
theorem qUl_hearsAck_248 {x5 : Int32} {r : q_R} {y_x5 : Int32} {r1 : q_R} (h : qB_hearsAck_248 x5 r = .inl (y_x5, r1)) : qF_hearsAck_248 x5 r = qF_hearsAck_248 y_x5 r1 := q_lpl (step := fun t => qB_hearsAck_248 t.1 t.2) h
set_option maxRecDepth 100000 in
theorem qUr_hearsAck_248 {x5 : Int32} {r : q_R} {y : q_R} (h : qB_hearsAck_248 x5 r = .inr y) : qF_hearsAck_248 x5 r = y := q_lpr (step := fun t => qB_hearsAck_248 t.1 t.2) h
set_option maxRecDepth 100000 in
theorem qE_hearsAck_248 (x5 : Int32) (r : q_R) : qB_hearsAck_248 x5 r = (if (2 ≤ x5) then (.inr (qF_hearsAck_271 0 r)) else (q_st (ua r 96 (x5 : Int32).toNatClampNeg 0) (fun r1 => (q_st (x5 + 1) (fun (x_18 : Int32) => (.inl (x_18, r1))))))) := rfl
set_option maxRecDepth 100000 in
set_option maxHeartbeats 4000000 in
theorem qS_hearsAck_248 {n : Nat} {Q Post : z_Mem → Prop} : ∀ (m : Nat) {x5 : Int32} {M : z_Mem} {r : q_R} (S : y_S n M) (R : q_rep n M r) (H : P_X12_hearsAck_248 (n + 40) Q m x5 M) (K : ∀ M1 r1, Q M1 → y_S n M1 → q_rep n M1 r1 → qF_hearsAck_248 x5 r = r1 → Post M1), P_X12_hearsAck_248 (n + 40) Post m x5 M := by
  intro m
  induction m with
  | zero => intros; rename_i H _; exact False.elim H
  | succ m ih =>
    intro x5 M r S R H K
    have hF := qE_hearsAck_248 x5 r
    unfold P_X12_hearsAck_248 at H ⊢
    refine And.intro (fun c1 => ?_) (fun c1 => ?_)
    · replace H := H.1 c1
      replace hF := hF.trans (if_pos c1)
      obtain ⟨m, H⟩ := H
      refine ⟨m, ?_⟩
      exact qS_hearsAck_271 m S R H (fun M1 r1 q1 q2 q3 u => K M1 r1 q1 q2 q3 (qUr_hearsAck_248 (hF.trans (congrArg Sum.inr u))))
    · replace H := H.2 c1
      replace hF := hF.trans (if_neg c1)
      replace H := z_nne (s_1619_40 S) H
      refine z_nn_of (s_1619_40 S) ?_
      refine And.intro H.1 ?_
      replace H := H.2
      intro M_17 e_M_17
      replace H := H M_17 e_M_17
      have S_M_17 : y_S n M_17 := by rw [e_M_17]; exact S_sai S
      have R_M_17 := rep_sai R (by decide) (by decide) e_M_17
      obtain ⟨r_M_17, h_M_17⟩ := q_gen R_M_17
      replace hF := hF.trans (q_ste h_M_17.2)
      replace R_M_17 := h_M_17.1
      intro x_18 e_x_18
      replace H := H x_18 e_x_18
      replace hF := hF.trans (q_ste e_x_18)
      replace hF := qUl_hearsAck_248 hF
      exact ih S_M_17 R_M_17 H (fun M1 r1 q1 q2 q3 u => K M1 r1 q1 q2 q3 (hF.trans u))
set_option maxRecDepth 100000 in
noncomputable def qB_hearsAck_184 (x2 : Int32) (x5 : Int32) (r : q_R) : (Int32 × Int32 × q_R) ⊕ q_R := (if (4 ≤ x5) then (q_st2 (qF_max (r.1 1589) (r.2 61 ((x2 + 14) : Int32).toNatClampNeg) r) (fun (x_24 : Int32) r1 => (q_st (uf r1 1589 x_24) (fun r2 => (.inr (qF_hearsAck_248 0 r2)))))) else (q_st2 (qF_max (r.2 68 (x5 : Int32).toNatClampNeg) (r.2 61 (((x2 + 10) + x5) : Int32).toNatClampNeg) r) (fun (x_34 : Int32) r3 => (q_st (ua r3 68 (x5 : Int32).toNatClampNeg x_34) (fun r4 => (q_st (x5 + 1) (fun (x_38 : Int32) => (.inl (x2, x_38, r4)))))))))
set_option maxRecDepth 100000 in
noncomputable def qF_hearsAck_184 (x2 : Int32) (x5 : Int32) (r : q_R) : q_R := q_lp (X := (Int32 × Int32 × q_R)) (Y := q_R) r (fun t => qB_hearsAck_184 t.1 t.2.1 t.2.2) (x2, x5, r)
set_option maxRecDepth 100000 in
theorem qUl_hearsAck_184 {x2 : Int32} {x5 : Int32} {r : q_R} {y_x2 : Int32} {y_x5 : Int32} {r1 : q_R} (h : qB_hearsAck_184 x2 x5 r = .inl (y_x2, y_x5, r1)) : qF_hearsAck_184 x2 x5 r = qF_hearsAck_184 y_x2 y_x5 r1 := q_lpl (step := fun t => qB_hearsAck_184 t.1 t.2.1 t.2.2) h
set_option maxRecDepth 100000 in
theorem qUr_hearsAck_184 {x2 : Int32} {x5 : Int32} {r : q_R} {y : q_R} (h : qB_hearsAck_184 x2 x5 r = .inr y) : qF_hearsAck_184 x2 x5 r = y := q_lpr (step := fun t => qB_hearsAck_184 t.1 t.2.1 t.2.2) h
set_option maxRecDepth 100000 in
theorem qE_hearsAck_184 (x2 : Int32) (x5 : Int32) (r : q_R) : qB_hearsAck_184 x2 x5 r = (if (4 ≤ x5) then (q_st2 (qF_max (r.1 1589) (r.2 61 ((x2 + 14) : Int32).toNatClampNeg) r) (fun (x_24 : Int32) r1 => (q_st (uf r1 1589 x_24) (fun r2 => (.inr (qF_hearsAck_248 0 r2)))))) else (q_st2 (qF_max (r.2 68 (x5 : Int32).toNatClampNeg) (r.2 61 (((x2 + 10) + x5) : Int32).toNatClampNeg) r) (fun (x_34 : Int32) r3 => (q_st (ua r3 68 (x5 : Int32).toNatClampNeg x_34) (fun r4 => (q_st (x5 + 1) (fun (x_38 : Int32) => (.inl (x2, x_38, r4))))))))) := rfl
set_option maxRecDepth 100000 in
set_option maxHeartbeats 4000000 in
theorem qS_hearsAck_184 {n : Nat} {Q Post : z_Mem → Prop} : ∀ (m : Nat) {x2 : Int32} {x5 : Int32} {M : z_Mem} {r : q_R} (S : y_S n M) (R : q_rep n M r) (H : P_X12_hearsAck_184 (n + 40) Q m x2 x5 M) (K : ∀ M1 r1, Q M1 → y_S n M1 → q_rep n M1 r1 → qF_hearsAck_184 x2 x5 r = r1 → Post M1), P_X12_hearsAck_184 (n + 40) Post m x2 x5 M := by
  intro m
  induction m with
  | zero => intros; rename_i H _; exact False.elim H
  | succ m ih =>
    intro x2 x5 M r S R H K
    have hF := qE_hearsAck_184 x2 x5 r
    unfold P_X12_hearsAck_184 at H ⊢
    refine And.intro (fun c1 => ?_) (fun c1 => ?_)
    · replace H := H.1 c1
      replace hF := hF.trans (if_pos c1)
      replace H := z_nne (s_1560_40 S) H
      refine z_nn_of (s_1560_40 S) ?_
      refine And.intro H.1 ?_
      replace H := H.2
      try simp only [qf_1589 R, qa_61 R] at H ⊢
      refine qS_max S R H (fun x_24 M_24 r_M_24 H S_M_24 R_M_24 u => ?_)
      replace hF := hF.trans (q_ste2 u)
      intro M_25 e_M_25
      replace H := H M_25 e_M_25
      have S_M_25 : y_S n M_25 := by rw [e_M_25]; exact S_sfi S_M_24
      have R_M_25 := rep_sfi R_M_24 e_M_25
      obtain ⟨r_M_25, h_M_25⟩ := q_gen R_M_25
      replace hF := hF.trans (q_ste h_M_25.2)
      replace R_M_25 := h_M_25.1
      obtain ⟨m, H⟩ := H
      refine ⟨m, ?_⟩
      exact qS_hearsAck_248 m S_M_25 R_M_25 H (fun M1 r1 q1 q2 q3 u => K M1 r1 q1 q2 q3 (qUr_hearsAck_184 (hF.trans (congrArg Sum.inr u))))
    · replace H := H.2 c1
      replace hF := hF.trans (if_neg c1)
      replace H := z_nne (s_1588_40 S) H
      refine z_nn_of (s_1588_40 S) ?_
      refine And.intro H.1 ?_
      replace H := H.2
      replace H := z_nne (s_1560_40 S) H
      refine z_nn_of (s_1560_40 S) ?_
      refine And.intro H.1 ?_
      replace H := H.2
      try simp only [qa_68 R, qa_61 R] at H ⊢
      refine qS_max S R H (fun x_34 M_34 r_M_34 H S_M_34 R_M_34 u => ?_)
      replace hF := hF.trans (q_ste2 u)
      replace H := z_nne (s_1588_40 S) H
      refine z_nn_of (s_1588_40 S) ?_
      refine And.intro H.1 ?_
      replace H := H.2
      intro M_37 e_M_37
      replace H := H M_37 e_M_37
      have S_M_37 : y_S n M_37 := by rw [e_M_37]; exact S_sai S_M_34
      have R_M_37 := rep_sai R_M_34 (by decide) (by decide) e_M_37
      obtain ⟨r_M_37, h_M_37⟩ := q_gen R_M_37
      replace hF := hF.trans (q_ste h_M_37.2)
      replace R_M_37 := h_M_37.1
      intro x_38 e_x_38
      replace H := H x_38 e_x_38
      replace hF := hF.trans (q_ste e_x_38)
      replace hF := qUl_hearsAck_184 hF
      exact ih S_M_37 R_M_37 H (fun M1 r1 q1 q2 q3 u => K M1 r1 q1 q2 q3 (hF.trans u))
set_option maxRecDepth 100000 in
noncomputable def qF_hearsAck_181 (x2 : Int32) (r : q_R) : q_R := (qF_hearsAck_184 x2 0 r)
set_option maxRecDepth 100000 in
theorem qE_hearsAck_181 (x2 : Int32) (r : q_R) : qF_hearsAck_181 x2 r = (qF_hearsAck_184 x2 0 r) := rfl
set_option maxRecDepth 100000 in
set_option maxHeartbeats 4000000 in
theorem qS_hearsAck_181 {n : Nat} {Q Post : z_Mem → Prop} {x2 : Int32} {M : z_Mem} {r : q_R} (S : y_S n M) (R : q_rep n M r) (H : P_X12_hearsAck_181 (n + 40) Q x2 M) (K : ∀ M1 r1, Q M1 → y_S n M1 → q_rep n M1 r1 → qF_hearsAck_181 x2 r = r1 → Post M1) : P_X12_hearsAck_181 (n + 40) Post x2 M := by
  have hF := qE_hearsAck_181 x2 r
  unfold P_X12_hearsAck_181 at H ⊢
  obtain ⟨m, H⟩ := H
  refine ⟨m, ?_⟩
  exact qS_hearsAck_184 m S R H (fun M1 r1 q1 q2 q3 u => K M1 r1 q1 q2 q3 (hF.trans u))
set_option maxRecDepth 100000 in
noncomputable def qF_hearsAck_140 (x2 : Int32) (x3 : Int32) (r : q_R) : q_R := (if ((r.2 61 ((x2 + 9) : Int32).toNatClampNeg) ≤ (r.1 1585)) then (qF_hearsAck_181 x2 r) else (q_st (uf r 1585 (r.2 61 ((x2 + 9) : Int32).toNatClampNeg)) (fun r1 => (q_st (qF_harms (r1.2 71 (x3 : Int32).toNatClampNeg) x3 0 r1) (fun r2 => (qF_hearsAck_181 x2 r2))))))
set_option maxRecDepth 100000 in
theorem qE_hearsAck_140 (x2 : Int32) (x3 : Int32) (r : q_R) : qF_hearsAck_140 x2 x3 r = (if ((r.2 61 ((x2 + 9) : Int32).toNatClampNeg) ≤ (r.1 1585)) then (qF_hearsAck_181 x2 r) else (q_st (uf r 1585 (r.2 61 ((x2 + 9) : Int32).toNatClampNeg)) (fun r1 => (q_st (qF_harms (r1.2 71 (x3 : Int32).toNatClampNeg) x3 0 r1) (fun r2 => (qF_hearsAck_181 x2 r2)))))) := rfl
set_option maxRecDepth 100000 in
set_option maxHeartbeats 4000000 in
theorem qS_hearsAck_140 {n : Nat} {Q Post : z_Mem → Prop} {x2 : Int32} {x3 : Int32} {M : z_Mem} {r : q_R} (S : y_S n M) (R : q_rep n M r) (H : P_X12_hearsAck_140 (n + 40) Q x2 x3 M) (K : ∀ M1 r1, Q M1 → y_S n M1 → q_rep n M1 r1 → qF_hearsAck_140 x2 x3 r = r1 → Post M1) : P_X12_hearsAck_140 (n + 40) Post x2 x3 M := by
  have hF := qE_hearsAck_140 x2 x3 r
  unfold P_X12_hearsAck_140 at H ⊢
  replace H := z_nne (s_1560_40 S) H
  refine z_nn_of (s_1560_40 S) ?_
  refine And.intro H.1 ?_
  replace H := H.2
  try simp only [qa_61 R, qf_1585 R] at H ⊢
  refine And.intro (fun c1 => ?_) (fun c1 => ?_)
  · replace H := H.1 c1
    replace hF := hF.trans (if_pos c1)
    exact qS_hearsAck_181 S R H (fun M1 r1 q1 q2 q3 u => K M1 r1 q1 q2 q3 (hF.trans u))
  · replace H := H.2 c1
    replace hF := hF.trans (if_neg c1)
    replace H := z_nne (s_1560_40 S) H
    refine z_nn_of (s_1560_40 S) ?_
    refine And.intro H.1 ?_
    replace H := H.2
    try simp only [qa_61 R] at H ⊢
    intro M_48 e_M_48
    replace H := H M_48 e_M_48
    have S_M_48 : y_S n M_48 := by rw [e_M_48]; exact S_sfi S
    have R_M_48 := rep_sfi R e_M_48
    obtain ⟨r_M_48, h_M_48⟩ := q_gen R_M_48
    replace hF := hF.trans (q_ste h_M_48.2)
    replace R_M_48 := h_M_48.1
    replace H := z_nne (s_1593_40 S_M_48) H
    refine z_nn_of (s_1593_40 S_M_48) ?_
    refine And.intro H.1 ?_
    replace H := H.2
    try simp only [qa_71 R_M_48] at H ⊢
    refine qS_harms S_M_48 R_M_48 H (fun M_52 r_M_52 H S_M_52 R_M_52 u => ?_)
    replace hF := hF.trans (q_ste u.symm)
    exact qS_hearsAck_181 S_M_52 R_M_52 H (fun M1 r1 q1 q2 q3 u => K M1 r1 q1 q2 q3 (hF.trans u))
set_option maxRecDepth 100000 in
noncomputable def qB_hearsAck_58 (x2 : Int32) (x3 : Int32) (x4 : Int32) (x5 : Int32) (r : q_R) : (Int32 × Int32 × Int32 × Int32 × q_R) ⊕ q_R := (if (x5 < 0) then (if (x4 = 0) then (.inr (qF_hearsAck_140 x2 x3 r)) else (q_st (qF_measures (r.2 71 (x3 : Int32).toNatClampNeg) ((r.1 1536) - (r.2 72 (x3 : Int32).toNatClampNeg)) r) (fun r1 => (.inr (qF_hearsAck_140 x2 x3 r1))))) else (q_st (r.2 61 (((x2 + 1) + (2 * x5)) : Int32).toNatClampNeg) (fun (x_66 : Int32) => (qF_hearsAck_78 x2 x3 x4 x5 x_66 r))))
set_option maxRecDepth 100000 in
noncomputable def qF_hearsAck_58 (x2 : Int32) (x3 : Int32) (x4 : Int32) (x5 : Int32) (r : q_R) : q_R := q_lp (X := (Int32 × Int32 × Int32 × Int32 × q_R)) (Y := q_R) r (fun t => qB_hearsAck_58 t.1 t.2.1 t.2.2.1 t.2.2.2.1 t.2.2.2.2) (x2, x3, x4, x5, r)
set_option maxRecDepth 100000 in
theorem qUl_hearsAck_58 {x2 : Int32} {x3 : Int32} {x4 : Int32} {x5 : Int32} {r : q_R} {y_x2 : Int32} {y_x3 : Int32} {y_x4 : Int32} {y_x5 : Int32} {r1 : q_R} (h : qB_hearsAck_58 x2 x3 x4 x5 r = .inl (y_x2, y_x3, y_x4, y_x5, r1)) : qF_hearsAck_58 x2 x3 x4 x5 r = qF_hearsAck_58 y_x2 y_x3 y_x4 y_x5 r1 := q_lpl (step := fun t => qB_hearsAck_58 t.1 t.2.1 t.2.2.1 t.2.2.2.1 t.2.2.2.2) h
set_option maxRecDepth 100000 in
theorem qUr_hearsAck_58 {x2 : Int32} {x3 : Int32} {x4 : Int32} {x5 : Int32} {r : q_R} {y : q_R} (h : qB_hearsAck_58 x2 x3 x4 x5 r = .inr y) : qF_hearsAck_58 x2 x3 x4 x5 r = y := q_lpr (step := fun t => qB_hearsAck_58 t.1 t.2.1 t.2.2.1 t.2.2.2.1 t.2.2.2.2) h
set_option maxRecDepth 100000 in
theorem qE_hearsAck_58 (x2 : Int32) (x3 : Int32) (x4 : Int32) (x5 : Int32) (r : q_R) : qB_hearsAck_58 x2 x3 x4 x5 r = (if (x5 < 0) then (if (x4 = 0) then (.inr (qF_hearsAck_140 x2 x3 r)) else (q_st (qF_measures (r.2 71 (x3 : Int32).toNatClampNeg) ((r.1 1536) - (r.2 72 (x3 : Int32).toNatClampNeg)) r) (fun r1 => (.inr (qF_hearsAck_140 x2 x3 r1))))) else (q_st (r.2 61 (((x2 + 1) + (2 * x5)) : Int32).toNatClampNeg) (fun (x_66 : Int32) => (qF_hearsAck_78 x2 x3 x4 x5 x_66 r)))) := rfl
set_option maxRecDepth 100000 in
set_option maxHeartbeats 4000000 in
theorem qS_hearsAck_58 {n : Nat} {Q Post : z_Mem → Prop} : ∀ (m : Nat) {x2 : Int32} {x3 : Int32} {x4 : Int32} {x5 : Int32} {M : z_Mem} {r : q_R} (S : y_S n M) (R : q_rep n M r) (H : P_X12_hearsAck_58 (n + 40) Q m x2 x3 x4 x5 M) (K : ∀ M1 r1, Q M1 → y_S n M1 → q_rep n M1 r1 → qF_hearsAck_58 x2 x3 x4 x5 r = r1 → Post M1), P_X12_hearsAck_58 (n + 40) Post m x2 x3 x4 x5 M := by
  intro m
  induction m with
  | zero => intros; rename_i H _; exact False.elim H
  | succ m ih =>
    intro x2 x3 x4 x5 M r S R H K
    have hF := qE_hearsAck_58 x2 x3 x4 x5 r
    unfold P_X12_hearsAck_58 at H ⊢
    refine And.intro (fun c1 => ?_) (fun c1 => ?_)
    · replace H := H.1 c1
      replace hF := hF.trans (if_pos c1)
      refine And.intro (fun c2 => ?_) (fun c2 => ?_)
      · replace H := H.1 c2
        replace hF := hF.trans (if_pos c2)
        exact qS_hearsAck_140 S R H (fun M1 r1 q1 q2 q3 u => K M1 r1 q1 q2 q3 (qUr_hearsAck_58 (hF.trans (congrArg Sum.inr u))))
      · replace H := H.2 c2
        replace hF := hF.trans (if_neg c2)
        replace H := z_nne (s_1593_40 S) H
        refine z_nn_of (s_1593_40 S) ?_
        refine And.intro H.1 ?_
        replace H := H.2
        replace H := z_nne (s_1594_40 S) H
        refine z_nn_of (s_1594_40 S) ?_
        refine And.intro H.1 ?_
        replace H := H.2
        try simp only [qa_71 R, qa_72 R, qf_1536 R] at H ⊢
        refine qS_measures S R H (fun M_62 r_M_62 H S_M_62 R_M_62 u => ?_)
        replace hF := hF.trans (q_ste u.symm)
        exact qS_hearsAck_140 S_M_62 R_M_62 H (fun M1 r1 q1 q2 q3 u => K M1 r1 q1 q2 q3 (qUr_hearsAck_58 (hF.trans (congrArg Sum.inr u))))
    · replace H := H.2 c1
      replace hF := hF.trans (if_neg c1)
      replace H := z_nne (s_1560_40 S) H
      refine z_nn_of (s_1560_40 S) ?_
      refine And.intro H.1 ?_
      replace H := H.2
      try simp only [qa_61 R] at H ⊢
      intro x_66 e_x_66
      replace H := H x_66 e_x_66
      replace hF := hF.trans (q_ste e_x_66)
      obtain ⟨m, H⟩ := H
      refine ⟨m, ?_⟩
      exact qS_hearsAck_78 m S R H (fun M1 r1 q1 q2 q3 u => K M1 r1 q1 q2 q3 (qUr_hearsAck_58 (hF.trans u))) (fun v0 v1 v2 v3 M1 r1 q1 q2 q3 u => ih q2 q3 q1 (fun M1 r1 q1 q2 q3 u2 => K M1 r1 q1 q2 q3 ((qUl_hearsAck_58 (hF.trans u)).trans u2))) 
set_option maxRecDepth 100000 in
noncomputable def qF_hearsAck_46 (x2 : Int32) (x3 : Int32) (t0 : Int32) (r : q_R) : q_R := (q_st ((r.2 61 (x2 : Int32).toNatClampNeg) - 1) (fun (x_71 : Int32) => (qF_hearsAck_58 x2 x3 t0 x_71 r)))
set_option maxRecDepth 100000 in
theorem qE_hearsAck_46 (x2 : Int32) (x3 : Int32) (t0 : Int32) (r : q_R) : qF_hearsAck_46 x2 x3 t0 r = (q_st ((r.2 61 (x2 : Int32).toNatClampNeg) - 1) (fun (x_71 : Int32) => (qF_hearsAck_58 x2 x3 t0 x_71 r))) := rfl
set_option maxRecDepth 100000 in
set_option maxHeartbeats 4000000 in
theorem qS_hearsAck_46 {n : Nat} {Q Post : z_Mem → Prop} {x2 : Int32} {x3 : Int32} {t0 : Int32} {M : z_Mem} {r : q_R} (S : y_S n M) (R : q_rep n M r) (H : P_X12_hearsAck_46 (n + 40) Q x2 x3 t0 M) (K : ∀ M1 r1, Q M1 → y_S n M1 → q_rep n M1 r1 → qF_hearsAck_46 x2 x3 t0 r = r1 → Post M1) : P_X12_hearsAck_46 (n + 40) Post x2 x3 t0 M := by
  have hF := qE_hearsAck_46 x2 x3 t0 r
  unfold P_X12_hearsAck_46 at H ⊢
  replace H := z_nne (s_1560_40 S) H
  refine z_nn_of (s_1560_40 S) ?_
  refine And.intro H.1 ?_
  replace H := H.2
  try simp only [qa_61 R] at H ⊢
  intro x_71 e_x_71
  replace H := H x_71 e_x_71
  replace hF := hF.trans (q_ste e_x_71)
  obtain ⟨m, H⟩ := H
  refine ⟨m, ?_⟩
  exact qS_hearsAck_58 m S R H (fun M1 r1 q1 q2 q3 u => K M1 r1 q1 q2 q3 (hF.trans u))
set_option maxRecDepth 100000 in
noncomputable def qF_hearsAck_45 (x2 : Int32) (x3 : Int32) (r : q_R) : q_R := (qF_hearsAck_46 x2 x3 0 r)
set_option maxRecDepth 100000 in
theorem qE_hearsAck_45 (x2 : Int32) (x3 : Int32) (r : q_R) : qF_hearsAck_45 x2 x3 r = (qF_hearsAck_46 x2 x3 0 r) := rfl
set_option maxRecDepth 100000 in
set_option maxHeartbeats 4000000 in
theorem qS_hearsAck_45 {n : Nat} {Q Post : z_Mem → Prop} {x2 : Int32} {x3 : Int32} {M : z_Mem} {r : q_R} (S : y_S n M) (R : q_rep n M r) (H : P_X12_hearsAck_45 (n + 40) Q x2 x3 M) (K : ∀ M1 r1, Q M1 → y_S n M1 → q_rep n M1 r1 → qF_hearsAck_45 x2 x3 r = r1 → Post M1) : P_X12_hearsAck_45 (n + 40) Post x2 x3 M := by
  have hF := qE_hearsAck_45 x2 x3 r
  unfold P_X12_hearsAck_45 at H ⊢
  exact qS_hearsAck_46 S R H (fun M1 r1 q1 q2 q3 u => K M1 r1 q1 q2 q3 (hF.trans u))
set_option maxRecDepth 100000 in
noncomputable def qF_hearsAck_26 (x2 : Int32) (t0 : Int32) (r : q_R) : q_R := (if (t0 = (-1)) then (qF_hearsAck_45 x2 t0 r) else (if ((r.2 76 (t0 : Int32).toNatClampNeg) = 0) then (qF_hearsAck_46 x2 t0 1 r) else (qF_hearsAck_45 x2 t0 r)))
set_option maxRecDepth 100000 in
theorem qE_hearsAck_26 (x2 : Int32) (t0 : Int32) (r : q_R) : qF_hearsAck_26 x2 t0 r = (if (t0 = (-1)) then (qF_hearsAck_45 x2 t0 r) else (if ((r.2 76 (t0 : Int32).toNatClampNeg) = 0) then (qF_hearsAck_46 x2 t0 1 r) else (qF_hearsAck_45 x2 t0 r))) := rfl
set_option maxRecDepth 100000 in
set_option maxHeartbeats 4000000 in
theorem qS_hearsAck_26 {n : Nat} {Q Post : z_Mem → Prop} {x2 : Int32} {t0 : Int32} {M : z_Mem} {r : q_R} (S : y_S n M) (R : q_rep n M r) (H : P_X12_hearsAck_26 (n + 40) Q x2 t0 M) (K : ∀ M1 r1, Q M1 → y_S n M1 → q_rep n M1 r1 → qF_hearsAck_26 x2 t0 r = r1 → Post M1) : P_X12_hearsAck_26 (n + 40) Post x2 t0 M := by
  have hF := qE_hearsAck_26 x2 t0 r
  unfold P_X12_hearsAck_26 at H ⊢
  refine And.intro (fun c1 => ?_) (fun c1 => ?_)
  · replace H := H.1 c1
    replace hF := hF.trans (if_pos c1)
    exact qS_hearsAck_45 S R H (fun M1 r1 q1 q2 q3 u => K M1 r1 q1 q2 q3 (hF.trans u))
  · replace H := H.2 c1
    replace hF := hF.trans (if_neg c1)
    replace H := z_nne (s_1598_40 S) H
    refine z_nn_of (s_1598_40 S) ?_
    refine And.intro H.1 ?_
    replace H := H.2
    try simp only [qa_76 R] at H ⊢
    refine And.intro (fun c2 => ?_) (fun c2 => ?_)
    · replace H := H.1 c2
      replace hF := hF.trans (if_pos c2)
      exact qS_hearsAck_46 S R H (fun M1 r1 q1 q2 q3 u => K M1 r1 q1 q2 q3 (hF.trans u))
    · replace H := H.2 c2
      replace hF := hF.trans (if_neg c2)
      exact qS_hearsAck_45 S R H (fun M1 r1 q1 q2 q3 u => K M1 r1 q1 q2 q3 (hF.trans u))
set_option maxRecDepth 100000 in
noncomputable def qF_hearsAck (p1 : Int32) (r : q_R) : q_R := (q_st (15 * p1) (fun (x_78 : Int32) => (if ((r.2 61 (x_78 : Int32).toNatClampNeg) ≤ 0) then (qF_hearsAck_26 x_78 (-1) r) else (qF_hearsAck_26 x_78 (r.2 61 ((x_78 + 2) : Int32).toNatClampNeg) r))))
set_option maxRecDepth 100000 in
theorem qE_hearsAck (p1 : Int32) (r : q_R) : qF_hearsAck p1 r = (q_st (15 * p1) (fun (x_78 : Int32) => (if ((r.2 61 (x_78 : Int32).toNatClampNeg) ≤ 0) then (qF_hearsAck_26 x_78 (-1) r) else (qF_hearsAck_26 x_78 (r.2 61 ((x_78 + 2) : Int32).toNatClampNeg) r)))) := rfl
set_option maxRecDepth 100000 in
set_option maxHeartbeats 4000000 in
theorem qS_hearsAck {n : Nat} {Q Post : z_Mem → Prop} {p1 : Int32} {M : z_Mem} {r : q_R} (S : y_S n M) (R : q_rep n M r) (H : P_X12_hearsAck (n + 40) p1 M Q) (K : ∀ M1 r1, Q M1 → y_S n M1 → q_rep n M1 r1 → qF_hearsAck p1 r = r1 → Post M1) : P_X12_hearsAck (n + 40) p1 M Post := by
  have hF := qE_hearsAck p1 r
  unfold P_X12_hearsAck at H ⊢
  intro x_78 e_x_78
  replace H := H x_78 e_x_78
  replace hF := hF.trans (q_ste e_x_78)
  replace H := z_nne (s_1560_40 S) H
  refine z_nn_of (s_1560_40 S) ?_
  refine And.intro H.1 ?_
  replace H := H.2
  try simp only [qa_61 R] at H ⊢
  refine And.intro (fun c1 => ?_) (fun c1 => ?_)
  · replace H := H.1 c1
    replace hF := hF.trans (if_pos c1)
    exact qS_hearsAck_26 S R H (fun M1 r1 q1 q2 q3 u => K M1 r1 q1 q2 q3 (hF.trans u))
  · replace H := H.2 c1
    replace hF := hF.trans (if_neg c1)
    replace H := z_nne (s_1560_40 S) H
    refine z_nn_of (s_1560_40 S) ?_
    refine And.intro H.1 ?_
    replace H := H.2
    try simp only [qa_61 R] at H ⊢
    exact qS_hearsAck_26 S R H (fun M1 r1 q1 q2 q3 u => K M1 r1 q1 q2 q3 (hF.trans u))
set_option maxRecDepth 100000 in
noncomputable def qF_saysHello (r : q_R) : q_R := (q_st (uf r 1580 (r.1 1536)) (fun r1 => (q_st (ua r1 106 (3 : Int32).toNatClampNeg ((r1.2 106 (3 : Int32).toNatClampNeg) + 1)) (fun r2 => (if ((r2.1 1579) = 0) then (q_st (qF_puts 0 1 ((2 * ((r2.1 1578) + 1)) + 0) r2) (fun r3 => r3)) else (q_st (qF_puts 0 1 ((2 * ((r2.1 1578) + 1)) + 1) r2) (fun r4 => r4)))))))
set_option maxRecDepth 100000 in
theorem qE_saysHello (r : q_R) : qF_saysHello r = (q_st (uf r 1580 (r.1 1536)) (fun r1 => (q_st (ua r1 106 (3 : Int32).toNatClampNeg ((r1.2 106 (3 : Int32).toNatClampNeg) + 1)) (fun r2 => (if ((r2.1 1579) = 0) then (q_st (qF_puts 0 1 ((2 * ((r2.1 1578) + 1)) + 0) r2) (fun r3 => r3)) else (q_st (qF_puts 0 1 ((2 * ((r2.1 1578) + 1)) + 1) r2) (fun r4 => r4))))))) := rfl
set_option maxRecDepth 100000 in
set_option maxHeartbeats 4000000 in
theorem qS_saysHello {n : Nat} {Q Post : z_Mem → Prop} {M : z_Mem} {r : q_R} (S : y_S n M) (R : q_rep n M r) (H : P_X12_saysHello (n + 40) M Q) (K : ∀ M1 r1, Q M1 → y_S n M1 → q_rep n M1 r1 → qF_saysHello r = r1 → Post M1) : P_X12_saysHello (n + 40) M Post := by
  have hF := qE_saysHello r
  unfold P_X12_saysHello at H ⊢
  try simp only [qf_1536 R] at H ⊢
  intro M_2 e_M_2
  replace H := H M_2 e_M_2
  have S_M_2 : y_S n M_2 := by rw [e_M_2]; exact S_sfi S
  have R_M_2 := rep_sfi R e_M_2
  obtain ⟨r_M_2, h_M_2⟩ := q_gen R_M_2
  replace hF := hF.trans (q_ste h_M_2.2)
  replace R_M_2 := h_M_2.1
  replace H := z_nne (s_1629_40 S_M_2) H
  refine z_nn_of (s_1629_40 S_M_2) ?_
  refine And.intro H.1 ?_
  replace H := H.2
  refine And.intro H.1 ?_
  replace H := H.2
  try simp only [qa_106 R_M_2] at H ⊢
  intro M_7 e_M_7
  replace H := H M_7 e_M_7
  have S_M_7 : y_S n M_7 := by rw [e_M_7]; exact S_sai S_M_2
  have R_M_7 := rep_sai R_M_2 (by decide) (by decide) e_M_7
  obtain ⟨r_M_7, h_M_7⟩ := q_gen R_M_7
  replace hF := hF.trans (q_ste h_M_7.2)
  replace R_M_7 := h_M_7.1
  try simp only [qf_1579 R_M_7] at H ⊢
  refine And.intro (fun c1 => ?_) (fun c1 => ?_)
  · replace H := H.1 c1
    replace hF := hF.trans (if_pos c1)
    try simp only [qf_1578 R_M_7] at H ⊢
    refine qS_puts S_M_7 R_M_7 H (fun M_11 r_M_11 H S_M_11 R_M_11 u => ?_)
    replace hF := hF.trans (q_ste u.symm)
    exact K _ _ H S_M_11 R_M_11 hF
  · replace H := H.2 c1
    replace hF := hF.trans (if_neg c1)
    try simp only [qf_1578 R_M_7] at H ⊢
    refine qS_puts S_M_7 R_M_7 H (fun M_12 r_M_12 H S_M_12 R_M_12 u => ?_)
    replace hF := hF.trans (q_ste u.symm)
    exact K _ _ H S_M_12 R_M_12 hF
set_option maxRecDepth 100000 in
noncomputable def qF_hearsAccept_57 (x1 : Int32) (x2 : Int32) (r : q_R) : ((Int32 × Int32 × q_R) ⊕ q_R) := (q_st (x2 + 1) (fun (x_1 : Int32) => (.inl (x1, x_1, r))))
set_option maxRecDepth 100000 in
theorem qE_hearsAccept_57 (x1 : Int32) (x2 : Int32) (r : q_R) : qF_hearsAccept_57 x1 x2 r = (q_st (x2 + 1) (fun (x_1 : Int32) => (.inl (x1, x_1, r)))) := rfl
set_option maxRecDepth 100000 in
set_option maxHeartbeats 4000000 in
theorem qS_hearsAccept_57 {n : Nat} {Q Post : z_Mem → Prop} {QJ21 PJ21 : Int32 → Int32 → z_Mem → Prop} {x1 : Int32} {x2 : Int32} {M : z_Mem} {r : q_R} (S : y_S n M) (R : q_rep n M r) (H : P_X12_hearsAccept_57 (n + 40) Q QJ21 x1 x2 M) (K : ∀ M1 r1, Q M1 → y_S n M1 → q_rep n M1 r1 → qF_hearsAccept_57 x1 x2 r = (.inr r1) → Post M1) (KJ21 : ∀ v0 v1 M1 r1, QJ21 v0 v1 M1 → y_S n M1 → q_rep n M1 r1 → qF_hearsAccept_57 x1 x2 r = (.inl (v0, v1, r1)) → PJ21 v0 v1 M1) : P_X12_hearsAccept_57 (n + 40) Post PJ21 x1 x2 M := by
  have hF := qE_hearsAccept_57 x1 x2 r
  unfold P_X12_hearsAccept_57 at H ⊢
  intro x_1 e_x_1
  replace H := H x_1 e_x_1
  replace hF := hF.trans (q_ste e_x_1)
  exact KJ21 _ _ _ _ H S R hF
set_option maxRecDepth 100000 in
noncomputable def qB_hearsAccept_21 (x1 : Int32) (x2 : Int32) (r : q_R) : (Int32 × Int32 × q_R) ⊕ q_R := (if ((r.1 1606) ≤ x2) then (.inr r) else (if (x1 = 0) then (if ((r.2 80 (x2 : Int32).toNatClampNeg) = 0) then (qF_hearsAccept_57 x1 x2 r) else (if ((r.2 76 (x2 : Int32).toNatClampNeg) = 0) then (q_st (qF_lands x2 4 r) (fun r1 => (qF_hearsAccept_57 x1 x2 r1))) else (qF_hearsAccept_57 x1 x2 r))) else (qF_hearsAccept_57 x1 x2 r)))
set_option maxRecDepth 100000 in
noncomputable def qF_hearsAccept_21 (x1 : Int32) (x2 : Int32) (r : q_R) : q_R := q_lp (X := (Int32 × Int32 × q_R)) (Y := q_R) r (fun t => qB_hearsAccept_21 t.1 t.2.1 t.2.2) (x1, x2, r)
set_option maxRecDepth 100000 in
theorem qUl_hearsAccept_21 {x1 : Int32} {x2 : Int32} {r : q_R} {y_x1 : Int32} {y_x2 : Int32} {r1 : q_R} (h : qB_hearsAccept_21 x1 x2 r = .inl (y_x1, y_x2, r1)) : qF_hearsAccept_21 x1 x2 r = qF_hearsAccept_21 y_x1 y_x2 r1 := q_lpl (step := fun t => qB_hearsAccept_21 t.1 t.2.1 t.2.2) h
set_option maxRecDepth 100000 in
theorem qUr_hearsAccept_21 {x1 : Int32} {x2 : Int32} {r : q_R} {y : q_R} (h : qB_hearsAccept_21 x1 x2 r = .inr y) : qF_hearsAccept_21 x1 x2 r = y := q_lpr (step := fun t => qB_hearsAccept_21 t.1 t.2.1 t.2.2) h
set_option maxRecDepth 100000 in
theorem qE_hearsAccept_21 (x1 : Int32) (x2 : Int32) (r : q_R) : qB_hearsAccept_21 x1 x2 r = (if ((r.1 1606) ≤ x2) then (.inr r) else (if (x1 = 0) then (if ((r.2 80 (x2 : Int32).toNatClampNeg) = 0) then (qF_hearsAccept_57 x1 x2 r) else (if ((r.2 76 (x2 : Int32).toNatClampNeg) = 0) then (q_st (qF_lands x2 4 r) (fun r1 => (qF_hearsAccept_57 x1 x2 r1))) else (qF_hearsAccept_57 x1 x2 r))) else (qF_hearsAccept_57 x1 x2 r))) := rfl
set_option maxRecDepth 100000 in
set_option maxHeartbeats 4000000 in
theorem qS_hearsAccept_21 {n : Nat} {Q Post : z_Mem → Prop} : ∀ (m : Nat) {x1 : Int32} {x2 : Int32} {M : z_Mem} {r : q_R} (S : y_S n M) (R : q_rep n M r) (H : P_X12_hearsAccept_21 (n + 40) Q m x1 x2 M) (K : ∀ M1 r1, Q M1 → y_S n M1 → q_rep n M1 r1 → qF_hearsAccept_21 x1 x2 r = r1 → Post M1), P_X12_hearsAccept_21 (n + 40) Post m x1 x2 M := by
  intro m
  induction m with
  | zero => intros; rename_i H _; exact False.elim H
  | succ m ih =>
    intro x1 x2 M r S R H K
    have hF := qE_hearsAccept_21 x1 x2 r
    unfold P_X12_hearsAccept_21 at H ⊢
    try simp only [qf_1606 R] at H ⊢
    refine And.intro (fun c1 => ?_) (fun c1 => ?_)
    · replace H := H.1 c1
      replace hF := hF.trans (if_pos c1)
      exact K _ _ H S R (qUr_hearsAccept_21 hF)
    · replace H := H.2 c1
      replace hF := hF.trans (if_neg c1)
      refine And.intro (fun c2 => ?_) (fun c2 => ?_)
      · replace H := H.1 c2
        replace hF := hF.trans (if_pos c2)
        replace H := z_nne (s_1602_40 S) H
        refine z_nn_of (s_1602_40 S) ?_
        refine And.intro H.1 ?_
        replace H := H.2
        try simp only [qa_80 R] at H ⊢
        refine And.intro (fun c3 => ?_) (fun c3 => ?_)
        · replace H := H.1 c3
          replace hF := hF.trans (if_pos c3)
          exact qS_hearsAccept_57 S R H (fun M1 r1 q1 q2 q3 u => K M1 r1 q1 q2 q3 (qUr_hearsAccept_21 (hF.trans u))) (fun v0 v1 M1 r1 q1 q2 q3 u => ih q2 q3 q1 (fun M1 r1 q1 q2 q3 u2 => K M1 r1 q1 q2 q3 ((qUl_hearsAccept_21 (hF.trans u)).trans u2))) 
        · replace H := H.2 c3
          replace hF := hF.trans (if_neg c3)
          replace H := z_nne (s_1598_40 S) H
          refine z_nn_of (s_1598_40 S) ?_
          refine And.intro H.1 ?_
          replace H := H.2
          try simp only [qa_76 R] at H ⊢
          refine And.intro (fun c4 => ?_) (fun c4 => ?_)
          · replace H := H.1 c4
            replace hF := hF.trans (if_pos c4)
            refine qS_lands S R H (fun M_13 r_M_13 H S_M_13 R_M_13 u => ?_)
            replace hF := hF.trans (q_ste u.symm)
            exact qS_hearsAccept_57 S_M_13 R_M_13 H (fun M1 r1 q1 q2 q3 u => K M1 r1 q1 q2 q3 (qUr_hearsAccept_21 (hF.trans u))) (fun v0 v1 M1 r1 q1 q2 q3 u => ih q2 q3 q1 (fun M1 r1 q1 q2 q3 u2 => K M1 r1 q1 q2 q3 ((qUl_hearsAccept_21 (hF.trans u)).trans u2))) 
          · replace H := H.2 c4
            replace hF := hF.trans (if_neg c4)
            exact qS_hearsAccept_57 S R H (fun M1 r1 q1 q2 q3 u => K M1 r1 q1 q2 q3 (qUr_hearsAccept_21 (hF.trans u))) (fun v0 v1 M1 r1 q1 q2 q3 u => ih q2 q3 q1 (fun M1 r1 q1 q2 q3 u2 => K M1 r1 q1 q2 q3 ((qUl_hearsAccept_21 (hF.trans u)).trans u2))) 
      · replace H := H.2 c2
        replace hF := hF.trans (if_neg c2)
        exact qS_hearsAccept_57 S R H (fun M1 r1 q1 q2 q3 u => K M1 r1 q1 q2 q3 (qUr_hearsAccept_21 (hF.trans u))) (fun v0 v1 M1 r1 q1 q2 q3 u => ih q2 q3 q1 (fun M1 r1 q1 q2 q3 u2 => K M1 r1 q1 q2 q3 ((qUl_hearsAccept_21 (hF.trans u)).trans u2))) 
set_option maxRecDepth 100000 in
noncomputable def qF_hearsAccept (p1 : Int32) (r : q_R) : q_R := (q_st (uf r 1577 2) (fun r1 => (q_st (qF_measures 0 ((r1.1 1536) - (r1.1 1580)) r1) (fun r2 => (qF_hearsAccept_21 p1 0 r2)))))
set_option maxRecDepth 100000 in
theorem qE_hearsAccept (p1 : Int32) (r : q_R) : qF_hearsAccept p1 r = (q_st (uf r 1577 2) (fun r1 => (q_st (qF_measures 0 ((r1.1 1536) - (r1.1 1580)) r1) (fun r2 => (qF_hearsAccept_21 p1 0 r2))))) := rfl
set_option maxRecDepth 100000 in
set_option maxHeartbeats 4000000 in
theorem qS_hearsAccept {n : Nat} {Q Post : z_Mem → Prop} {p1 : Int32} {M : z_Mem} {r : q_R} (S : y_S n M) (R : q_rep n M r) (H : P_X12_hearsAccept (n + 40) p1 M Q) (K : ∀ M1 r1, Q M1 → y_S n M1 → q_rep n M1 r1 → qF_hearsAccept p1 r = r1 → Post M1) : P_X12_hearsAccept (n + 40) p1 M Post := by
  have hF := qE_hearsAccept p1 r
  unfold P_X12_hearsAccept at H ⊢
  intro M_14 e_M_14
  replace H := H M_14 e_M_14
  have S_M_14 : y_S n M_14 := by rw [e_M_14]; exact S_sfi S
  have R_M_14 := rep_sfi R e_M_14
  obtain ⟨r_M_14, h_M_14⟩ := q_gen R_M_14
  replace hF := hF.trans (q_ste h_M_14.2)
  replace R_M_14 := h_M_14.1
  try simp only [qf_1536 R_M_14, qf_1580 R_M_14] at H ⊢
  refine qS_measures S_M_14 R_M_14 H (fun M_17 r_M_17 H S_M_17 R_M_17 u => ?_)
  replace hF := hF.trans (q_ste u.symm)
  obtain ⟨m, H⟩ := H
  refine ⟨m, ?_⟩
  exact qS_hearsAccept_21 m S_M_17 R_M_17 H (fun M1 r1 q1 q2 q3 u => K M1 r1 q1 q2 q3 (hF.trans u))
set_option maxRecDepth 100000 in
noncomputable def qF_arrivesAtClient_153 (x2 : Int32) (r : q_R) : q_R := (if (x2 = 9) then (if ((r.1 1577) = 4) then r else (q_st (uf r 1577 5) (fun r1 => r1))) else r)
set_option maxRecDepth 100000 in
theorem qE_arrivesAtClient_153 (x2 : Int32) (r : q_R) : qF_arrivesAtClient_153 x2 r = (if (x2 = 9) then (if ((r.1 1577) = 4) then r else (q_st (uf r 1577 5) (fun r1 => r1))) else r) := rfl
set_option maxRecDepth 100000 in
set_option maxHeartbeats 4000000 in
theorem qS_arrivesAtClient_153 {n : Nat} {Q Post : z_Mem → Prop} {x2 : Int32} {M : z_Mem} {r : q_R} (S : y_S n M) (R : q_rep n M r) (H : P_X12_arrivesAtClient_153 (n + 40) Q x2 M) (K : ∀ M1 r1, Q M1 → y_S n M1 → q_rep n M1 r1 → qF_arrivesAtClient_153 x2 r = r1 → Post M1) : P_X12_arrivesAtClient_153 (n + 40) Post x2 M := by
  have hF := qE_arrivesAtClient_153 x2 r
  unfold P_X12_arrivesAtClient_153 at H ⊢
  refine And.intro (fun c1 => ?_) (fun c1 => ?_)
  · replace H := H.1 c1
    replace hF := hF.trans (if_pos c1)
    try simp only [qf_1577 R] at H ⊢
    refine And.intro (fun c2 => ?_) (fun c2 => ?_)
    · replace H := H.1 c2
      replace hF := hF.trans (if_pos c2)
      exact K _ _ H S R hF
    · replace H := H.2 c2
      replace hF := hF.trans (if_neg c2)
      intro M_4 e_M_4
      replace H := H M_4 e_M_4
      have S_M_4 : y_S n M_4 := by rw [e_M_4]; exact S_sfi S
      have R_M_4 := rep_sfi R e_M_4
      obtain ⟨r_M_4, h_M_4⟩ := q_gen R_M_4
      replace hF := hF.trans (q_ste h_M_4.2)
      replace R_M_4 := h_M_4.1
      exact K _ _ H S_M_4 R_M_4 hF
  · replace H := H.2 c1
    replace hF := hF.trans (if_neg c1)
    exact K _ _ H S R hF
set_option maxRecDepth 100000 in
noncomputable def qF_arrivesAtClient_116 (x1 : Int32) (x2 : Int32) (r : q_R) : q_R := (if (x2 = 8) then (if ((r.1 1577) = 4) then (qF_arrivesAtClient_153 x2 r) else (if ((r.1 1577) = 5) then (qF_arrivesAtClient_153 x2 r) else (q_st (ua r 92 ((r.2 59 (x1 : Int32).toNatClampNeg) : Int32).toNatClampNeg 1) (fun r1 => r1)))) else (qF_arrivesAtClient_153 x2 r))
set_option maxRecDepth 100000 in
theorem qE_arrivesAtClient_116 (x1 : Int32) (x2 : Int32) (r : q_R) : qF_arrivesAtClient_116 x1 x2 r = (if (x2 = 8) then (if ((r.1 1577) = 4) then (qF_arrivesAtClient_153 x2 r) else (if ((r.1 1577) = 5) then (qF_arrivesAtClient_153 x2 r) else (q_st (ua r 92 ((r.2 59 (x1 : Int32).toNatClampNeg) : Int32).toNatClampNeg 1) (fun r1 => r1)))) else (qF_arrivesAtClient_153 x2 r)) := rfl
set_option maxRecDepth 100000 in
set_option maxHeartbeats 4000000 in
theorem qS_arrivesAtClient_116 {n : Nat} {Q Post : z_Mem → Prop} {x1 : Int32} {x2 : Int32} {M : z_Mem} {r : q_R} (S : y_S n M) (R : q_rep n M r) (H : P_X12_arrivesAtClient_116 (n + 40) Q x1 x2 M) (K : ∀ M1 r1, Q M1 → y_S n M1 → q_rep n M1 r1 → qF_arrivesAtClient_116 x1 x2 r = r1 → Post M1) : P_X12_arrivesAtClient_116 (n + 40) Post x1 x2 M := by
  have hF := qE_arrivesAtClient_116 x1 x2 r
  unfold P_X12_arrivesAtClient_116 at H ⊢
  refine And.intro (fun c1 => ?_) (fun c1 => ?_)
  · replace H := H.1 c1
    replace hF := hF.trans (if_pos c1)
    try simp only [qf_1577 R] at H ⊢
    refine And.intro (fun c2 => ?_) (fun c2 => ?_)
    · replace H := H.1 c2
      replace hF := hF.trans (if_pos c2)
      exact qS_arrivesAtClient_153 S R H (fun M1 r1 q1 q2 q3 u => K M1 r1 q1 q2 q3 (hF.trans u))
    · replace H := H.2 c2
      replace hF := hF.trans (if_neg c2)
      try simp only [qf_1577 R] at H ⊢
      refine And.intro (fun c3 => ?_) (fun c3 => ?_)
      · replace H := H.1 c3
        replace hF := hF.trans (if_pos c3)
        exact qS_arrivesAtClient_153 S R H (fun M1 r1 q1 q2 q3 u => K M1 r1 q1 q2 q3 (hF.trans u))
      · replace H := H.2 c3
        replace hF := hF.trans (if_neg c3)
        replace H := z_nne (s_1557_40 S) H
        refine z_nn_of (s_1557_40 S) ?_
        refine And.intro H.1 ?_
        replace H := H.2
        replace H := z_nne (s_1615_40 S) H
        refine z_nn_of (s_1615_40 S) ?_
        refine And.intro H.1 ?_
        replace H := H.2
        try simp only [qa_59 R] at H ⊢
        intro M_16 e_M_16
        replace H := H M_16 e_M_16
        have S_M_16 : y_S n M_16 := by rw [e_M_16]; exact S_sai S
        have R_M_16 := rep_sai R (by decide) (by decide) e_M_16
        obtain ⟨r_M_16, h_M_16⟩ := q_gen R_M_16
        replace hF := hF.trans (q_ste h_M_16.2)
        replace R_M_16 := h_M_16.1
        exact K _ _ H S_M_16 R_M_16 hF
  · replace H := H.2 c1
    replace hF := hF.trans (if_neg c1)
    exact qS_arrivesAtClient_153 S R H (fun M1 r1 q1 q2 q3 u => K M1 r1 q1 q2 q3 (hF.trans u))
set_option maxRecDepth 100000 in
noncomputable def qF_arrivesAtClient_81 (x1 : Int32) (x2 : Int32) (r : q_R) : q_R := (if (x2 = 7) then (if ((r.1 1577) = 2) then (q_st (qF_hearsAck (r.2 58 (x1 : Int32).toNatClampNeg) r) (fun r1 => r1)) else (if ((r.1 1577) = 3) then (q_st (qF_hearsAck (r.2 58 (x1 : Int32).toNatClampNeg) r) (fun r2 => r2)) else (qF_arrivesAtClient_116 x1 x2 r))) else (qF_arrivesAtClient_116 x1 x2 r))
set_option maxRecDepth 100000 in
theorem qE_arrivesAtClient_81 (x1 : Int32) (x2 : Int32) (r : q_R) : qF_arrivesAtClient_81 x1 x2 r = (if (x2 = 7) then (if ((r.1 1577) = 2) then (q_st (qF_hearsAck (r.2 58 (x1 : Int32).toNatClampNeg) r) (fun r1 => r1)) else (if ((r.1 1577) = 3) then (q_st (qF_hearsAck (r.2 58 (x1 : Int32).toNatClampNeg) r) (fun r2 => r2)) else (qF_arrivesAtClient_116 x1 x2 r))) else (qF_arrivesAtClient_116 x1 x2 r)) := rfl
set_option maxRecDepth 100000 in
set_option maxHeartbeats 4000000 in
theorem qS_arrivesAtClient_81 {n : Nat} {Q Post : z_Mem → Prop} {x1 : Int32} {x2 : Int32} {M : z_Mem} {r : q_R} (S : y_S n M) (R : q_rep n M r) (H : P_X12_arrivesAtClient_81 (n + 40) Q x1 x2 M) (K : ∀ M1 r1, Q M1 → y_S n M1 → q_rep n M1 r1 → qF_arrivesAtClient_81 x1 x2 r = r1 → Post M1) : P_X12_arrivesAtClient_81 (n + 40) Post x1 x2 M := by
  have hF := qE_arrivesAtClient_81 x1 x2 r
  unfold P_X12_arrivesAtClient_81 at H ⊢
  refine And.intro (fun c1 => ?_) (fun c1 => ?_)
  · replace H := H.1 c1
    replace hF := hF.trans (if_pos c1)
    try simp only [qf_1577 R] at H ⊢
    refine And.intro (fun c2 => ?_) (fun c2 => ?_)
    · replace H := H.1 c2
      replace hF := hF.trans (if_pos c2)
      replace H := z_nne (s_1556_40 S) H
      refine z_nn_of (s_1556_40 S) ?_
      refine And.intro H.1 ?_
      replace H := H.2
      try simp only [qa_58 R] at H ⊢
      refine qS_hearsAck S R H (fun M_23 r_M_23 H S_M_23 R_M_23 u => ?_)
      replace hF := hF.trans (q_ste u.symm)
      exact K _ _ H S_M_23 R_M_23 hF
    · replace H := H.2 c2
      replace hF := hF.trans (if_neg c2)
      try simp only [qf_1577 R] at H ⊢
      refine And.intro (fun c3 => ?_) (fun c3 => ?_)
      · replace H := H.1 c3
        replace hF := hF.trans (if_pos c3)
        replace H := z_nne (s_1556_40 S) H
        refine z_nn_of (s_1556_40 S) ?_
        refine And.intro H.1 ?_
        replace H := H.2
        try simp only [qa_58 R] at H ⊢
        refine qS_hearsAck S R H (fun M_29 r_M_29 H S_M_29 R_M_29 u => ?_)
        replace hF := hF.trans (q_ste u.symm)
        exact K _ _ H S_M_29 R_M_29 hF
      · replace H := H.2 c3
        replace hF := hF.trans (if_neg c3)
        exact qS_arrivesAtClient_116 S R H (fun M1 r1 q1 q2 q3 u => K M1 r1 q1 q2 q3 (hF.trans u))
  · replace H := H.2 c1
    replace hF := hF.trans (if_neg c1)
    exact qS_arrivesAtClient_116 S R H (fun M1 r1 q1 q2 q3 u => K M1 r1 q1 q2 q3 (hF.trans u))
set_option maxRecDepth 100000 in
noncomputable def qF_arrivesAtClient_45 (x1 : Int32) (x2 : Int32) (r : q_R) : q_R := (if (x2 = 6) then (if ((r.1 1577) = 1) then (if ((r.2 58 (x1 : Int32).toNatClampNeg) = 1) then (q_st (qF_hearsAccept 1 r) (fun r1 => r1)) else (q_st (qF_hearsAccept 0 r) (fun r2 => r2))) else (qF_arrivesAtClient_81 x1 x2 r)) else (qF_arrivesAtClient_81 x1 x2 r))
set_option maxRecDepth 100000 in
theorem qE_arrivesAtClient_45 (x1 : Int32) (x2 : Int32) (r : q_R) : qF_arrivesAtClient_45 x1 x2 r = (if (x2 = 6) then (if ((r.1 1577) = 1) then (if ((r.2 58 (x1 : Int32).toNatClampNeg) = 1) then (q_st (qF_hearsAccept 1 r) (fun r1 => r1)) else (q_st (qF_hearsAccept 0 r) (fun r2 => r2))) else (qF_arrivesAtClient_81 x1 x2 r)) else (qF_arrivesAtClient_81 x1 x2 r)) := rfl
set_option maxRecDepth 100000 in
set_option maxHeartbeats 4000000 in
theorem qS_arrivesAtClient_45 {n : Nat} {Q Post : z_Mem → Prop} {x1 : Int32} {x2 : Int32} {M : z_Mem} {r : q_R} (S : y_S n M) (R : q_rep n M r) (H : P_X12_arrivesAtClient_45 (n + 40) Q x1 x2 M) (K : ∀ M1 r1, Q M1 → y_S n M1 → q_rep n M1 r1 → qF_arrivesAtClient_45 x1 x2 r = r1 → Post M1) : P_X12_arrivesAtClient_45 (n + 40) Post x1 x2 M := by
  have hF := qE_arrivesAtClient_45 x1 x2 r
  unfold P_X12_arrivesAtClient_45 at H ⊢
  refine And.intro (fun c1 => ?_) (fun c1 => ?_)
  · replace H := H.1 c1
    replace hF := hF.trans (if_pos c1)
    try simp only [qf_1577 R] at H ⊢
    refine And.intro (fun c2 => ?_) (fun c2 => ?_)
    · replace H := H.1 c2
      replace hF := hF.trans (if_pos c2)
      replace H := z_nne (s_1556_40 S) H
      refine z_nn_of (s_1556_40 S) ?_
      refine And.intro H.1 ?_
      replace H := H.2
      try simp only [qa_58 R] at H ⊢
      refine And.intro (fun c3 => ?_) (fun c3 => ?_)
      · replace H := H.1 c3
        replace hF := hF.trans (if_pos c3)
        refine qS_hearsAccept S R H (fun M_38 r_M_38 H S_M_38 R_M_38 u => ?_)
        replace hF := hF.trans (q_ste u.symm)
        exact K _ _ H S_M_38 R_M_38 hF
      · replace H := H.2 c3
        replace hF := hF.trans (if_neg c3)
        refine qS_hearsAccept S R H (fun M_37 r_M_37 H S_M_37 R_M_37 u => ?_)
        replace hF := hF.trans (q_ste u.symm)
        exact K _ _ H S_M_37 R_M_37 hF
    · replace H := H.2 c2
      replace hF := hF.trans (if_neg c2)
      exact qS_arrivesAtClient_81 S R H (fun M1 r1 q1 q2 q3 u => K M1 r1 q1 q2 q3 (hF.trans u))
  · replace H := H.2 c1
    replace hF := hF.trans (if_neg c1)
    exact qS_arrivesAtClient_81 S R H (fun M1 r1 q1 q2 q3 u => K M1 r1 q1 q2 q3 (hF.trans u))
set_option maxRecDepth 100000 in
noncomputable def qF_arrivesAtClient (p1 : Int32) (r : q_R) : q_R := (q_st (r.2 57 (p1 : Int32).toNatClampNeg) (fun (x_42 : Int32) => (if (x_42 = 5) then (if ((r.1 1577) = 1) then (if ((r.1 1579) = 0) then (q_st (uf r 1579 1) (fun r1 => (q_st (uf r1 1581 10) (fun r2 => (q_st (qF_saysHello r2) (fun r3 => r3)))))) else (qF_arrivesAtClient_45 p1 x_42 r)) else (qF_arrivesAtClient_45 p1 x_42 r)) else (qF_arrivesAtClient_45 p1 x_42 r))))
set_option maxRecDepth 100000 in
theorem qE_arrivesAtClient (p1 : Int32) (r : q_R) : qF_arrivesAtClient p1 r = (q_st (r.2 57 (p1 : Int32).toNatClampNeg) (fun (x_42 : Int32) => (if (x_42 = 5) then (if ((r.1 1577) = 1) then (if ((r.1 1579) = 0) then (q_st (uf r 1579 1) (fun r1 => (q_st (uf r1 1581 10) (fun r2 => (q_st (qF_saysHello r2) (fun r3 => r3)))))) else (qF_arrivesAtClient_45 p1 x_42 r)) else (qF_arrivesAtClient_45 p1 x_42 r)) else (qF_arrivesAtClient_45 p1 x_42 r)))) := rfl
set_option maxRecDepth 100000 in
set_option maxHeartbeats 4000000 in
theorem qS_arrivesAtClient {n : Nat} {Q Post : z_Mem → Prop} {p1 : Int32} {M : z_Mem} {r : q_R} (S : y_S n M) (R : q_rep n M r) (H : P_X12_arrivesAtClient (n + 40) p1 M Q) (K : ∀ M1 r1, Q M1 → y_S n M1 → q_rep n M1 r1 → qF_arrivesAtClient p1 r = r1 → Post M1) : P_X12_arrivesAtClient (n + 40) p1 M Post := by
  have hF := qE_arrivesAtClient p1 r
  unfold P_X12_arrivesAtClient at H ⊢
  replace H := z_nne (s_1555_40 S) H
  refine z_nn_of (s_1555_40 S) ?_
  refine And.intro H.1 ?_
  replace H := H.2
  try simp only [qa_57 R] at H ⊢
  intro x_42 e_x_42
  replace H := H x_42 e_x_42
  replace hF := hF.trans (q_ste e_x_42)
  refine And.intro (fun c1 => ?_) (fun c1 => ?_)
  · replace H := H.1 c1
    replace hF := hF.trans (if_pos c1)
    try simp only [qf_1577 R] at H ⊢
    refine And.intro (fun c2 => ?_) (fun c2 => ?_)
    · replace H := H.1 c2
      replace hF := hF.trans (if_pos c2)
      try simp only [qf_1579 R] at H ⊢
      refine And.intro (fun c3 => ?_) (fun c3 => ?_)
      · replace H := H.1 c3
        replace hF := hF.trans (if_pos c3)
        intro M_48 e_M_48
        replace H := H M_48 e_M_48
        have S_M_48 : y_S n M_48 := by rw [e_M_48]; exact S_sfi S
        have R_M_48 := rep_sfi R e_M_48
        obtain ⟨r_M_48, h_M_48⟩ := q_gen R_M_48
        replace hF := hF.trans (q_ste h_M_48.2)
        replace R_M_48 := h_M_48.1
        intro M_49 e_M_49
        replace H := H M_49 e_M_49
        have S_M_49 : y_S n M_49 := by rw [e_M_49]; exact S_sfi S_M_48
        have R_M_49 := rep_sfi R_M_48 e_M_49
        obtain ⟨r_M_49, h_M_49⟩ := q_gen R_M_49
        replace hF := hF.trans (q_ste h_M_49.2)
        replace R_M_49 := h_M_49.1
        refine qS_saysHello S_M_49 R_M_49 H (fun M_50 r_M_50 H S_M_50 R_M_50 u => ?_)
        replace hF := hF.trans (q_ste u.symm)
        exact K _ _ H S_M_50 R_M_50 hF
      · replace H := H.2 c3
        replace hF := hF.trans (if_neg c3)
        exact qS_arrivesAtClient_45 S R H (fun M1 r1 q1 q2 q3 u => K M1 r1 q1 q2 q3 (hF.trans u))
    · replace H := H.2 c2
      replace hF := hF.trans (if_neg c2)
      exact qS_arrivesAtClient_45 S R H (fun M1 r1 q1 q2 q3 u => K M1 r1 q1 q2 q3 (hF.trans u))
  · replace H := H.2 c1
    replace hF := hF.trans (if_neg c1)
    exact qS_arrivesAtClient_45 S R H (fun M1 r1 q1 q2 q3 u => K M1 r1 q1 q2 q3 (hF.trans u))
set_option maxRecDepth 100000 in
noncomputable def qB_sends_139 (x1 : Int32) (x2 : Int32) (x3 : Int32) (x4 : Int32) (x6 : Int32) (x7 : Int32) (r : q_R) : (Int32 × Int32 × Int32 × Int32 × Int32 × Int32 × q_R) ⊕ q_R := (if (x4 ≤ x7) then (q_st (uf r 1606 ((r.1 1606) + 1)) (fun r1 => (q_st (qF_puts x1 2 x6 r1) (fun r2 => (.inr r2))))) else (q_st (ua r 70 ((((200 * x2) + x3) + x7) : Int32).toNatClampNeg ((r.2 70 ((((200 * x2) + x3) + x7) : Int32).toNatClampNeg) + 1)) (fun r3 => (q_st (x7 + 1) (fun (x_10 : Int32) => (.inl (x1, x2, x3, x4, x6, x_10, r3)))))))
set_option maxRecDepth 100000 in
noncomputable def qF_sends_139 (x1 : Int32) (x2 : Int32) (x3 : Int32) (x4 : Int32) (x6 : Int32) (x7 : Int32) (r : q_R) : q_R := q_lp (X := (Int32 × Int32 × Int32 × Int32 × Int32 × Int32 × q_R)) (Y := q_R) r (fun t => qB_sends_139 t.1 t.2.1 t.2.2.1 t.2.2.2.1 t.2.2.2.2.1 t.2.2.2.2.2.1 t.2.2.2.2.2.2) (x1, x2, x3, x4, x6, x7, r)
set_option maxRecDepth 100000 in
theorem qUl_sends_139 {x1 : Int32} {x2 : Int32} {x3 : Int32} {x4 : Int32} {x6 : Int32} {x7 : Int32} {r : q_R} {y_x1 : Int32} {y_x2 : Int32} {y_x3 : Int32} {y_x4 : Int32} {y_x6 : Int32} {y_x7 : Int32} {r1 : q_R} (h : qB_sends_139 x1 x2 x3 x4 x6 x7 r = .inl (y_x1, y_x2, y_x3, y_x4, y_x6, y_x7, r1)) : qF_sends_139 x1 x2 x3 x4 x6 x7 r = qF_sends_139 y_x1 y_x2 y_x3 y_x4 y_x6 y_x7 r1 := q_lpl (step := fun t => qB_sends_139 t.1 t.2.1 t.2.2.1 t.2.2.2.1 t.2.2.2.2.1 t.2.2.2.2.2.1 t.2.2.2.2.2.2) h
set_option maxRecDepth 100000 in
theorem qUr_sends_139 {x1 : Int32} {x2 : Int32} {x3 : Int32} {x4 : Int32} {x6 : Int32} {x7 : Int32} {r : q_R} {y : q_R} (h : qB_sends_139 x1 x2 x3 x4 x6 x7 r = .inr y) : qF_sends_139 x1 x2 x3 x4 x6 x7 r = y := q_lpr (step := fun t => qB_sends_139 t.1 t.2.1 t.2.2.1 t.2.2.2.1 t.2.2.2.2.1 t.2.2.2.2.2.1 t.2.2.2.2.2.2) h
set_option maxRecDepth 100000 in
theorem qE_sends_139 (x1 : Int32) (x2 : Int32) (x3 : Int32) (x4 : Int32) (x6 : Int32) (x7 : Int32) (r : q_R) : qB_sends_139 x1 x2 x3 x4 x6 x7 r = (if (x4 ≤ x7) then (q_st (uf r 1606 ((r.1 1606) + 1)) (fun r1 => (q_st (qF_puts x1 2 x6 r1) (fun r2 => (.inr r2))))) else (q_st (ua r 70 ((((200 * x2) + x3) + x7) : Int32).toNatClampNeg ((r.2 70 ((((200 * x2) + x3) + x7) : Int32).toNatClampNeg) + 1)) (fun r3 => (q_st (x7 + 1) (fun (x_10 : Int32) => (.inl (x1, x2, x3, x4, x6, x_10, r3))))))) := rfl
set_option maxRecDepth 100000 in
set_option maxHeartbeats 4000000 in
theorem qS_sends_139 {n : Nat} {Q Post : z_Mem → Prop} : ∀ (m : Nat) {x1 : Int32} {x2 : Int32} {x3 : Int32} {x4 : Int32} {x6 : Int32} {x7 : Int32} {M : z_Mem} {r : q_R} (S : y_S n M) (R : q_rep n M r) (H : P_X12_sends_139 (n + 40) Q m x1 x2 x3 x4 x6 x7 M) (K : ∀ M1 r1, Q M1 → y_S n M1 → q_rep n M1 r1 → qF_sends_139 x1 x2 x3 x4 x6 x7 r = r1 → Post M1), P_X12_sends_139 (n + 40) Post m x1 x2 x3 x4 x6 x7 M := by
  intro m
  induction m with
  | zero => intros; rename_i H _; exact False.elim H
  | succ m ih =>
    intro x1 x2 x3 x4 x6 x7 M r S R H K
    have hF := qE_sends_139 x1 x2 x3 x4 x6 x7 r
    unfold P_X12_sends_139 at H ⊢
    refine And.intro (fun c1 => ?_) (fun c1 => ?_)
    · replace H := H.1 c1
      replace hF := hF.trans (if_pos c1)
      try simp only [qf_1606 R] at H ⊢
      intro M_3 e_M_3
      replace H := H M_3 e_M_3
      have S_M_3 : y_S n M_3 := by rw [e_M_3]; exact S_sfi S
      have R_M_3 := rep_sfi R e_M_3
      obtain ⟨r_M_3, h_M_3⟩ := q_gen R_M_3
      replace hF := hF.trans (q_ste h_M_3.2)
      replace R_M_3 := h_M_3.1
      refine qS_puts S_M_3 R_M_3 H (fun M_4 r_M_4 H S_M_4 R_M_4 u => ?_)
      replace hF := hF.trans (q_ste u.symm)
      exact K _ _ H S_M_4 R_M_4 (qUr_sends_139 hF)
    · replace H := H.2 c1
      replace hF := hF.trans (if_neg c1)
      replace H := z_nne (s_1592_40 S) H
      refine z_nn_of (s_1592_40 S) ?_
      refine And.intro H.1 ?_
      replace H := H.2
      refine And.intro H.1 ?_
      replace H := H.2
      try simp only [qa_70 R] at H ⊢
      intro M_9 e_M_9
      replace H := H M_9 e_M_9
      have S_M_9 : y_S n M_9 := by rw [e_M_9]; exact S_sai S
      have R_M_9 := rep_sai R (by decide) (by decide) e_M_9
      obtain ⟨r_M_9, h_M_9⟩ := q_gen R_M_9
      replace hF := hF.trans (q_ste h_M_9.2)
      replace R_M_9 := h_M_9.1
      intro x_10 e_x_10
      replace H := H x_10 e_x_10
      replace hF := hF.trans (q_ste e_x_10)
      replace hF := qUl_sends_139 hF
      exact ih S_M_9 R_M_9 H (fun M1 r1 q1 q2 q3 u => K M1 r1 q1 q2 q3 (hF.trans u))
set_option maxRecDepth 100000 in
noncomputable def qF_sends_89 (x1 : Int32) (x2 : Int32) (x3 : Int32) (x4 : Int32) (x6 : Int32) (t0 : Nat) (t1 : Int32) (t2 : Int32) (r : q_R) : q_R := (q_st (ua r t0 (t1 : Int32).toNatClampNeg t2) (fun r1 => (q_st (ua r1 82 (x6 : Int32).toNatClampNeg (r1.2 93 (x1 : Int32).toNatClampNeg)) (fun r2 => (q_st (ua r2 93 (x1 : Int32).toNatClampNeg ((r2.2 93 (x1 : Int32).toNatClampNeg) + 1)) (fun r3 => (q_st (ua r3 83 (x6 : Int32).toNatClampNeg (r3.2 97 (x1 : Int32).toNatClampNeg)) (fun r4 => (q_st (ua r4 95 (x1 : Int32).toNatClampNeg (r4.1 1536)) (fun r5 => (qF_sends_139 x1 x2 x3 x4 x6 0 r5)))))))))))
set_option maxRecDepth 100000 in
theorem qE_sends_89 (x1 : Int32) (x2 : Int32) (x3 : Int32) (x4 : Int32) (x6 : Int32) (t0 : Nat) (t1 : Int32) (t2 : Int32) (r : q_R) : qF_sends_89 x1 x2 x3 x4 x6 t0 t1 t2 r = (q_st (ua r t0 (t1 : Int32).toNatClampNeg t2) (fun r1 => (q_st (ua r1 82 (x6 : Int32).toNatClampNeg (r1.2 93 (x1 : Int32).toNatClampNeg)) (fun r2 => (q_st (ua r2 93 (x1 : Int32).toNatClampNeg ((r2.2 93 (x1 : Int32).toNatClampNeg) + 1)) (fun r3 => (q_st (ua r3 83 (x6 : Int32).toNatClampNeg (r3.2 97 (x1 : Int32).toNatClampNeg)) (fun r4 => (q_st (ua r4 95 (x1 : Int32).toNatClampNeg (r4.1 1536)) (fun r5 => (qF_sends_139 x1 x2 x3 x4 x6 0 r5))))))))))) := rfl
set_option maxRecDepth 100000 in
set_option maxHeartbeats 4000000 in
theorem qS_sends_89 {n : Nat} {Q Post : z_Mem → Prop} {x1 : Int32} {x2 : Int32} {x3 : Int32} {x4 : Int32} {x6 : Int32} {t1 : Int32} {t2 : Int32} {t0 : Nat} {o_t0 : Option Nat} {M : z_Mem} {r : q_R} (h0_t0 : 41 ≤ t0) (h1_t0 : t0 < 107) (ho_t0 : o_t0 = some (n + t0)) (S : y_S n M) (R : q_rep n M r) (H : P_X12_sends_89 (n + 40) Q x1 x2 x3 x4 x6 o_t0 t1 t2 M) (K : ∀ M1 r1, Q M1 → y_S n M1 → q_rep n M1 r1 → qF_sends_89 x1 x2 x3 x4 x6 t0 t1 t2 r = r1 → Post M1) : P_X12_sends_89 (n + 40) Post x1 x2 x3 x4 x6 o_t0 t1 t2 M := by
  subst ho_t0
  have hF := qE_sends_89 x1 x2 x3 x4 x6 t0 t1 t2 r
  unfold P_X12_sends_89 at H ⊢
  replace H := z_nne rfl H
  refine z_nn_of rfl ?_
  refine And.intro H.1 ?_
  replace H := H.2
  intro M_13 e_M_13
  replace H := H M_13 e_M_13
  have S_M_13 : y_S n M_13 := by rw [e_M_13]; exact S_sai S
  have R_M_13 := rep_sai R h0_t0 h1_t0 e_M_13
  obtain ⟨r_M_13, h_M_13⟩ := q_gen R_M_13
  replace hF := hF.trans (q_ste h_M_13.2)
  replace R_M_13 := h_M_13.1
  replace H := z_nne (s_1616_40 S_M_13) H
  refine z_nn_of (s_1616_40 S_M_13) ?_
  refine And.intro H.1 ?_
  replace H := H.2
  replace H := z_nne (s_1604_40 S_M_13) H
  refine z_nn_of (s_1604_40 S_M_13) ?_
  refine And.intro H.1 ?_
  replace H := H.2
  try simp only [qa_93 R_M_13] at H ⊢
  intro M_20 e_M_20
  replace H := H M_20 e_M_20
  have S_M_20 : y_S n M_20 := by rw [e_M_20]; exact S_sai S_M_13
  have R_M_20 := rep_sai R_M_13 (by decide) (by decide) e_M_20
  obtain ⟨r_M_20, h_M_20⟩ := q_gen R_M_20
  replace hF := hF.trans (q_ste h_M_20.2)
  replace R_M_20 := h_M_20.1
  replace H := z_nne (s_1616_40 S_M_20) H
  refine z_nn_of (s_1616_40 S_M_20) ?_
  refine And.intro H.1 ?_
  replace H := H.2
  refine And.intro H.1 ?_
  replace H := H.2
  try simp only [qa_93 R_M_20] at H ⊢
  intro M_25 e_M_25
  replace H := H M_25 e_M_25
  have S_M_25 : y_S n M_25 := by rw [e_M_25]; exact S_sai S_M_20
  have R_M_25 := rep_sai R_M_20 (by decide) (by decide) e_M_25
  obtain ⟨r_M_25, h_M_25⟩ := q_gen R_M_25
  replace hF := hF.trans (q_ste h_M_25.2)
  replace R_M_25 := h_M_25.1
  replace H := z_nne (s_1620_40 S_M_25) H
  refine z_nn_of (s_1620_40 S_M_25) ?_
  refine And.intro H.1 ?_
  replace H := H.2
  replace H := z_nne (s_1605_40 S_M_25) H
  refine z_nn_of (s_1605_40 S_M_25) ?_
  refine And.intro H.1 ?_
  replace H := H.2
  try simp only [qa_97 R_M_25] at H ⊢
  intro M_32 e_M_32
  replace H := H M_32 e_M_32
  have S_M_32 : y_S n M_32 := by rw [e_M_32]; exact S_sai S_M_25
  have R_M_32 := rep_sai R_M_25 (by decide) (by decide) e_M_32
  obtain ⟨r_M_32, h_M_32⟩ := q_gen R_M_32
  replace hF := hF.trans (q_ste h_M_32.2)
  replace R_M_32 := h_M_32.1
  replace H := z_nne (s_1618_40 S_M_32) H
  refine z_nn_of (s_1618_40 S_M_32) ?_
  refine And.intro H.1 ?_
  replace H := H.2
  try simp only [qf_1536 R_M_32] at H ⊢
  intro M_37 e_M_37
  replace H := H M_37 e_M_37
  have S_M_37 : y_S n M_37 := by rw [e_M_37]; exact S_sai S_M_32
  have R_M_37 := rep_sai R_M_32 (by decide) (by decide) e_M_37
  obtain ⟨r_M_37, h_M_37⟩ := q_gen R_M_37
  replace hF := hF.trans (q_ste h_M_37.2)
  replace R_M_37 := h_M_37.1
  obtain ⟨m, H⟩ := H
  refine ⟨m, ?_⟩
  exact qS_sends_139 m S_M_37 R_M_37 H (fun M1 r1 q1 q2 q3 u => K M1 r1 q1 q2 q3 (hF.trans u))
set_option maxRecDepth 100000 in
noncomputable def qF_sends (p1 : Int32) (p2 : Int32) (p3 : Int32) (p4 : Int32) (p5 : Int32) (r : q_R) : q_R := (q_st (r.1 1606) (fun (x_40 : Int32) => (q_st (ua r 71 (x_40 : Int32).toNatClampNeg p1) (fun r1 => (q_st (ua r1 72 (x_40 : Int32).toNatClampNeg (r1.1 1536)) (fun r2 => (q_st (ua r2 73 (x_40 : Int32).toNatClampNeg p2) (fun r3 => (q_st (ua r3 74 (x_40 : Int32).toNatClampNeg p3) (fun r4 => (q_st (ua r4 75 (x_40 : Int32).toNatClampNeg p4) (fun r5 => (q_st (ua r5 78 (x_40 : Int32).toNatClampNeg (r5.1 1584)) (fun r6 => (q_st (ua r6 79 (x_40 : Int32).toNatClampNeg p5) (fun r7 => (if ((r7.1 1577) = 1) then (qF_sends_89 p1 p2 p3 p4 x_40 80 x_40 1 r7) else (qF_sends_89 p1 p2 p3 p4 x_40 80 x_40 0 r7))))))))))))))))))
set_option maxRecDepth 100000 in
theorem qE_sends (p1 : Int32) (p2 : Int32) (p3 : Int32) (p4 : Int32) (p5 : Int32) (r : q_R) : qF_sends p1 p2 p3 p4 p5 r = (q_st (r.1 1606) (fun (x_40 : Int32) => (q_st (ua r 71 (x_40 : Int32).toNatClampNeg p1) (fun r1 => (q_st (ua r1 72 (x_40 : Int32).toNatClampNeg (r1.1 1536)) (fun r2 => (q_st (ua r2 73 (x_40 : Int32).toNatClampNeg p2) (fun r3 => (q_st (ua r3 74 (x_40 : Int32).toNatClampNeg p3) (fun r4 => (q_st (ua r4 75 (x_40 : Int32).toNatClampNeg p4) (fun r5 => (q_st (ua r5 78 (x_40 : Int32).toNatClampNeg (r5.1 1584)) (fun r6 => (q_st (ua r6 79 (x_40 : Int32).toNatClampNeg p5) (fun r7 => (if ((r7.1 1577) = 1) then (qF_sends_89 p1 p2 p3 p4 x_40 80 x_40 1 r7) else (qF_sends_89 p1 p2 p3 p4 x_40 80 x_40 0 r7)))))))))))))))))) := rfl
set_option maxRecDepth 100000 in
set_option maxHeartbeats 4000000 in
theorem qS_sends {n : Nat} {Q Post : z_Mem → Prop} {p1 : Int32} {p2 : Int32} {p3 : Int32} {p4 : Int32} {p5 : Int32} {M : z_Mem} {r : q_R} (S : y_S n M) (R : q_rep n M r) (H : P_X12_sends (n + 40) p1 p2 p3 p4 p5 M Q) (K : ∀ M1 r1, Q M1 → y_S n M1 → q_rep n M1 r1 → qF_sends p1 p2 p3 p4 p5 r = r1 → Post M1) : P_X12_sends (n + 40) p1 p2 p3 p4 p5 M Post := by
  have hF := qE_sends p1 p2 p3 p4 p5 r
  unfold P_X12_sends at H ⊢
  try simp only [qf_1606 R] at H ⊢
  intro x_40 e_x_40
  replace H := H x_40 e_x_40
  replace hF := hF.trans (q_ste e_x_40)
  replace H := z_nne (s_1593_40 S) H
  refine z_nn_of (s_1593_40 S) ?_
  refine And.intro H.1 ?_
  replace H := H.2
  intro M_44 e_M_44
  replace H := H M_44 e_M_44
  have S_M_44 : y_S n M_44 := by rw [e_M_44]; exact S_sai S
  have R_M_44 := rep_sai R (by decide) (by decide) e_M_44
  obtain ⟨r_M_44, h_M_44⟩ := q_gen R_M_44
  replace hF := hF.trans (q_ste h_M_44.2)
  replace R_M_44 := h_M_44.1
  replace H := z_nne (s_1594_40 S_M_44) H
  refine z_nn_of (s_1594_40 S_M_44) ?_
  refine And.intro H.1 ?_
  replace H := H.2
  try simp only [qf_1536 R_M_44] at H ⊢
  intro M_49 e_M_49
  replace H := H M_49 e_M_49
  have S_M_49 : y_S n M_49 := by rw [e_M_49]; exact S_sai S_M_44
  have R_M_49 := rep_sai R_M_44 (by decide) (by decide) e_M_49
  obtain ⟨r_M_49, h_M_49⟩ := q_gen R_M_49
  replace hF := hF.trans (q_ste h_M_49.2)
  replace R_M_49 := h_M_49.1
  replace H := z_nne (s_1595_40 S_M_49) H
  refine z_nn_of (s_1595_40 S_M_49) ?_
  refine And.intro H.1 ?_
  replace H := H.2
  intro M_53 e_M_53
  replace H := H M_53 e_M_53
  have S_M_53 : y_S n M_53 := by rw [e_M_53]; exact S_sai S_M_49
  have R_M_53 := rep_sai R_M_49 (by decide) (by decide) e_M_53
  obtain ⟨r_M_53, h_M_53⟩ := q_gen R_M_53
  replace hF := hF.trans (q_ste h_M_53.2)
  replace R_M_53 := h_M_53.1
  replace H := z_nne (s_1596_40 S_M_53) H
  refine z_nn_of (s_1596_40 S_M_53) ?_
  refine And.intro H.1 ?_
  replace H := H.2
  intro M_57 e_M_57
  replace H := H M_57 e_M_57
  have S_M_57 : y_S n M_57 := by rw [e_M_57]; exact S_sai S_M_53
  have R_M_57 := rep_sai R_M_53 (by decide) (by decide) e_M_57
  obtain ⟨r_M_57, h_M_57⟩ := q_gen R_M_57
  replace hF := hF.trans (q_ste h_M_57.2)
  replace R_M_57 := h_M_57.1
  replace H := z_nne (s_1597_40 S_M_57) H
  refine z_nn_of (s_1597_40 S_M_57) ?_
  refine And.intro H.1 ?_
  replace H := H.2
  intro M_61 e_M_61
  replace H := H M_61 e_M_61
  have S_M_61 : y_S n M_61 := by rw [e_M_61]; exact S_sai S_M_57
  have R_M_61 := rep_sai R_M_57 (by decide) (by decide) e_M_61
  obtain ⟨r_M_61, h_M_61⟩ := q_gen R_M_61
  replace hF := hF.trans (q_ste h_M_61.2)
  replace R_M_61 := h_M_61.1
  replace H := z_nne (s_1600_40 S_M_61) H
  refine z_nn_of (s_1600_40 S_M_61) ?_
  refine And.intro H.1 ?_
  replace H := H.2
  try simp only [qf_1584 R_M_61] at H ⊢
  intro M_66 e_M_66
  replace H := H M_66 e_M_66
  have S_M_66 : y_S n M_66 := by rw [e_M_66]; exact S_sai S_M_61
  have R_M_66 := rep_sai R_M_61 (by decide) (by decide) e_M_66
  obtain ⟨r_M_66, h_M_66⟩ := q_gen R_M_66
  replace hF := hF.trans (q_ste h_M_66.2)
  replace R_M_66 := h_M_66.1
  replace H := z_nne (s_1601_40 S_M_66) H
  refine z_nn_of (s_1601_40 S_M_66) ?_
  refine And.intro H.1 ?_
  replace H := H.2
  intro M_70 e_M_70
  replace H := H M_70 e_M_70
  have S_M_70 : y_S n M_70 := by rw [e_M_70]; exact S_sai S_M_66
  have R_M_70 := rep_sai R_M_66 (by decide) (by decide) e_M_70
  obtain ⟨r_M_70, h_M_70⟩ := q_gen R_M_70
  replace hF := hF.trans (q_ste h_M_70.2)
  replace R_M_70 := h_M_70.1
  try simp only [qf_1577 R_M_70] at H ⊢
  refine And.intro (fun c1 => ?_) (fun c1 => ?_)
  · replace H := H.1 c1
    replace hF := hF.trans (if_pos c1)
    exact qS_sends_89 (by decide) (by decide) (s_1602_40 S_M_70) S_M_70 R_M_70 H (fun M1 r1 q1 q2 q3 u => K M1 r1 q1 q2 q3 (hF.trans u))
  · replace H := H.2 c1
    replace hF := hF.trans (if_neg c1)
    exact qS_sends_89 (by decide) (by decide) (s_1602_40 S_M_70) S_M_70 R_M_70 H (fun M1 r1 q1 q2 q3 u => K M1 r1 q1 q2 q3 (hF.trans u))
set_option maxRecDepth 100000 in
noncomputable def qF_isLost (p1 : Int32) (p2 : Int32) (r : q_R) : (Int32 × q_R) := (if ((r.2 67 (p1 : Int32).toNatClampNeg) ≤ p2) then (0, r) else (if ((r.2 69 (((200 * p1) + p2) : Int32).toNatClampNeg) = 0) then (if ((r.2 70 (((200 * p1) + p2) : Int32).toNatClampNeg) = 0) then (1, r) else (0, r)) else (0, r)))
set_option maxRecDepth 100000 in
theorem qE_isLost (p1 : Int32) (p2 : Int32) (r : q_R) : qF_isLost p1 p2 r = (if ((r.2 67 (p1 : Int32).toNatClampNeg) ≤ p2) then (0, r) else (if ((r.2 69 (((200 * p1) + p2) : Int32).toNatClampNeg) = 0) then (if ((r.2 70 (((200 * p1) + p2) : Int32).toNatClampNeg) = 0) then (1, r) else (0, r)) else (0, r))) := rfl
set_option maxRecDepth 100000 in
set_option maxHeartbeats 4000000 in
theorem qS_isLost {n : Nat} {Q Post : Int32 → z_Mem → Prop} {p1 : Int32} {p2 : Int32} {M : z_Mem} {r : q_R} (S : y_S n M) (R : q_rep n M r) (H : P_X12_isLost (n + 40) p1 p2 M Q) (K : ∀ x M1 r1, Q x M1 → y_S n M1 → q_rep n M1 r1 → qF_isLost p1 p2 r = (x, r1) → Post x M1) : P_X12_isLost (n + 40) p1 p2 M Post := by
  have hF := qE_isLost p1 p2 r
  unfold P_X12_isLost at H ⊢
  replace H := z_nne (s_1587_40 S) H
  refine z_nn_of (s_1587_40 S) ?_
  refine And.intro H.1 ?_
  replace H := H.2
  try simp only [qa_67 R] at H ⊢
  refine And.intro (fun c1 => ?_) (fun c1 => ?_)
  · replace H := H.1 c1
    replace hF := hF.trans (if_pos c1)
    exact K _ _ _ H S R hF
  · replace H := H.2 c1
    replace hF := hF.trans (if_neg c1)
    replace H := z_nne (s_1591_40 S) H
    refine z_nn_of (s_1591_40 S) ?_
    refine And.intro H.1 ?_
    replace H := H.2
    try simp only [qa_69 R] at H ⊢
    refine And.intro (fun c2 => ?_) (fun c2 => ?_)
    · replace H := H.1 c2
      replace hF := hF.trans (if_pos c2)
      replace H := z_nne (s_1592_40 S) H
      refine z_nn_of (s_1592_40 S) ?_
      refine And.intro H.1 ?_
      replace H := H.2
      try simp only [qa_70 R] at H ⊢
      refine And.intro (fun c3 => ?_) (fun c3 => ?_)
      · replace H := H.1 c3
        replace hF := hF.trans (if_pos c3)
        exact K _ _ _ H S R hF
      · replace H := H.2 c3
        replace hF := hF.trans (if_neg c3)
        exact K _ _ _ H S R hF
    · replace H := H.2 c2
      replace hF := hF.trans (if_neg c2)
      exact K _ _ _ H S R hF
set_option maxRecDepth 100000 in
noncomputable def qB_firstLost_2 (x1 : Int32) (x2 : Int32) (r : q_R) : (Int32 × Int32 × q_R) ⊕ (Int32 × q_R) := (if ((r.2 67 (x1 : Int32).toNatClampNeg) ≤ x2) then (.inr ((-1), r)) else (q_st2 (qF_isLost x1 x2 r) (fun (x_5 : Int32) r1 => (if (x_5 = 0) then (q_st (x2 + 1) (fun (x_7 : Int32) => (.inl (x1, x_7, r1)))) else (.inr (x2, r1))))))
set_option maxRecDepth 100000 in
noncomputable def qF_firstLost_2 (x1 : Int32) (x2 : Int32) (r : q_R) : (Int32 × q_R) := q_lp (X := (Int32 × Int32 × q_R)) (Y := (Int32 × q_R)) ((0 : Int32), r) (fun t => qB_firstLost_2 t.1 t.2.1 t.2.2) (x1, x2, r)
set_option maxRecDepth 100000 in
theorem qUl_firstLost_2 {x1 : Int32} {x2 : Int32} {r : q_R} {y_x1 : Int32} {y_x2 : Int32} {r1 : q_R} (h : qB_firstLost_2 x1 x2 r = .inl (y_x1, y_x2, r1)) : qF_firstLost_2 x1 x2 r = qF_firstLost_2 y_x1 y_x2 r1 := q_lpl (step := fun t => qB_firstLost_2 t.1 t.2.1 t.2.2) h
set_option maxRecDepth 100000 in
theorem qUr_firstLost_2 {x1 : Int32} {x2 : Int32} {r : q_R} {y : (Int32 × q_R)} (h : qB_firstLost_2 x1 x2 r = .inr y) : qF_firstLost_2 x1 x2 r = y := q_lpr (step := fun t => qB_firstLost_2 t.1 t.2.1 t.2.2) h
set_option maxRecDepth 100000 in
theorem qE_firstLost_2 (x1 : Int32) (x2 : Int32) (r : q_R) : qB_firstLost_2 x1 x2 r = (if ((r.2 67 (x1 : Int32).toNatClampNeg) ≤ x2) then (.inr ((-1), r)) else (q_st2 (qF_isLost x1 x2 r) (fun (x_5 : Int32) r1 => (if (x_5 = 0) then (q_st (x2 + 1) (fun (x_7 : Int32) => (.inl (x1, x_7, r1)))) else (.inr (x2, r1)))))) := rfl
set_option maxRecDepth 100000 in
set_option maxHeartbeats 4000000 in
theorem qS_firstLost_2 {n : Nat} {Q Post : Int32 → z_Mem → Prop} : ∀ (m : Nat) {x1 : Int32} {x2 : Int32} {M : z_Mem} {r : q_R} (S : y_S n M) (R : q_rep n M r) (H : P_X12_firstLost_2 (n + 40) Q m x1 x2 M) (K : ∀ x M1 r1, Q x M1 → y_S n M1 → q_rep n M1 r1 → qF_firstLost_2 x1 x2 r = (x, r1) → Post x M1), P_X12_firstLost_2 (n + 40) Post m x1 x2 M := by
  intro m
  induction m with
  | zero => intros; rename_i H _; exact False.elim H
  | succ m ih =>
    intro x1 x2 M r S R H K
    have hF := qE_firstLost_2 x1 x2 r
    unfold P_X12_firstLost_2 at H ⊢
    replace H := z_nne (s_1587_40 S) H
    refine z_nn_of (s_1587_40 S) ?_
    refine And.intro H.1 ?_
    replace H := H.2
    try simp only [qa_67 R] at H ⊢
    refine And.intro (fun c1 => ?_) (fun c1 => ?_)
    · replace H := H.1 c1
      replace hF := hF.trans (if_pos c1)
      exact K _ _ _ H S R (qUr_firstLost_2 hF)
    · replace H := H.2 c1
      replace hF := hF.trans (if_neg c1)
      refine qS_isLost S R H (fun x_5 M_5 r_M_5 H S_M_5 R_M_5 u => ?_)
      replace hF := hF.trans (q_ste2 u)
      refine And.intro (fun c2 => ?_) (fun c2 => ?_)
      · replace H := H.1 c2
        replace hF := hF.trans (if_pos c2)
        intro x_7 e_x_7
        replace H := H x_7 e_x_7
        replace hF := hF.trans (q_ste e_x_7)
        replace hF := qUl_firstLost_2 hF
        exact ih S_M_5 R_M_5 H (fun x M1 r1 q1 q2 q3 u => K x M1 r1 q1 q2 q3 (hF.trans u))
      · replace H := H.2 c2
        replace hF := hF.trans (if_neg c2)
        exact K _ _ _ H S_M_5 R_M_5 (qUr_firstLost_2 hF)
set_option maxRecDepth 100000 in
noncomputable def qF_firstLost (p1 : Int32) (r : q_R) : (Int32 × q_R) := (qF_firstLost_2 p1 0 r)
set_option maxRecDepth 100000 in
theorem qE_firstLost (p1 : Int32) (r : q_R) : qF_firstLost p1 r = (qF_firstLost_2 p1 0 r) := rfl
set_option maxRecDepth 100000 in
set_option maxHeartbeats 4000000 in
theorem qS_firstLost {n : Nat} {Q Post : Int32 → z_Mem → Prop} {p1 : Int32} {M : z_Mem} {r : q_R} (S : y_S n M) (R : q_rep n M r) (H : P_X12_firstLost (n + 40) p1 M Q) (K : ∀ x M1 r1, Q x M1 → y_S n M1 → q_rep n M1 r1 → qF_firstLost p1 r = (x, r1) → Post x M1) : P_X12_firstLost (n + 40) p1 M Post := by
  have hF := qE_firstLost p1 r
  unfold P_X12_firstLost at H ⊢
  obtain ⟨m, H⟩ := H
  refine ⟨m, ?_⟩
  exact qS_firstLost_2 m S R H (fun x M1 r1 q1 q2 q3 u => K x M1 r1 q1 q2 q3 (hF.trans u))
set_option maxRecDepth 100000 in
noncomputable def qF_sentInAll (r : q_R) : (Int32 × q_R) := (((((r.2 67 (0 : Int32).toNatClampNeg) + (r.2 67 (1 : Int32).toNatClampNeg)) + (r.2 67 (2 : Int32).toNatClampNeg)) + (r.2 67 (3 : Int32).toNatClampNeg)), r)
set_option maxRecDepth 100000 in
theorem qE_sentInAll (r : q_R) : qF_sentInAll r = (((((r.2 67 (0 : Int32).toNatClampNeg) + (r.2 67 (1 : Int32).toNatClampNeg)) + (r.2 67 (2 : Int32).toNatClampNeg)) + (r.2 67 (3 : Int32).toNatClampNeg)), r) := rfl
set_option maxRecDepth 100000 in
set_option maxHeartbeats 4000000 in
theorem qS_sentInAll {n : Nat} {Q Post : Int32 → z_Mem → Prop} {M : z_Mem} {r : q_R} (S : y_S n M) (R : q_rep n M r) (H : P_X12_sentInAll (n + 40) M Q) (K : ∀ x M1 r1, Q x M1 → y_S n M1 → q_rep n M1 r1 → qF_sentInAll r = (x, r1) → Post x M1) : P_X12_sentInAll (n + 40) M Post := by
  have hF := qE_sentInAll r
  unfold P_X12_sentInAll at H ⊢
  replace H := z_nne (s_1587_40 S) H
  refine z_nn_of (s_1587_40 S) ?_
  refine And.intro H.1 ?_
  replace H := H.2
  replace H := z_nne (s_1587_40 S) H
  refine z_nn_of (s_1587_40 S) ?_
  refine And.intro H.1 ?_
  replace H := H.2
  replace H := z_nne (s_1587_40 S) H
  refine z_nn_of (s_1587_40 S) ?_
  refine And.intro H.1 ?_
  replace H := H.2
  replace H := z_nne (s_1587_40 S) H
  refine z_nn_of (s_1587_40 S) ?_
  refine And.intro H.1 ?_
  replace H := H.2
  try simp only [qa_67 R] at H ⊢
  exact K _ _ _ H S R hF
set_option maxRecDepth 100000 in
noncomputable def qF_newOf_49 (x4 : Int32) (t0 : Int32) (r : q_R) : (Int32 × q_R) := (if (x4 ≤ t0) then (if (x4 ≤ 10) then (x4, r) else (10, r)) else (if (t0 ≤ 10) then (t0, r) else (10, r)))
set_option maxRecDepth 100000 in
theorem qE_newOf_49 (x4 : Int32) (t0 : Int32) (r : q_R) : qF_newOf_49 x4 t0 r = (if (x4 ≤ t0) then (if (x4 ≤ 10) then (x4, r) else (10, r)) else (if (t0 ≤ 10) then (t0, r) else (10, r))) := rfl
set_option maxRecDepth 100000 in
set_option maxHeartbeats 4000000 in
theorem qS_newOf_49 {n : Nat} {Q Post : Int32 → z_Mem → Prop} {x4 : Int32} {t0 : Int32} {M : z_Mem} {r : q_R} (S : y_S n M) (R : q_rep n M r) (H : P_X12_newOf_49 (n + 40) Q x4 t0 M) (K : ∀ x M1 r1, Q x M1 → y_S n M1 → q_rep n M1 r1 → qF_newOf_49 x4 t0 r = (x, r1) → Post x M1) : P_X12_newOf_49 (n + 40) Post x4 t0 M := by
  have hF := qE_newOf_49 x4 t0 r
  unfold P_X12_newOf_49 at H ⊢
  refine And.intro (fun c1 => ?_) (fun c1 => ?_)
  · replace H := H.1 c1
    replace hF := hF.trans (if_pos c1)
    refine And.intro (fun c2 => ?_) (fun c2 => ?_)
    · replace H := H.1 c2
      replace hF := hF.trans (if_pos c2)
      exact K _ _ _ H S R hF
    · replace H := H.2 c2
      replace hF := hF.trans (if_neg c2)
      exact K _ _ _ H S R hF
  · replace H := H.2 c1
    replace hF := hF.trans (if_neg c1)
    refine And.intro (fun c3 => ?_) (fun c3 => ?_)
    · replace H := H.1 c3
      replace hF := hF.trans (if_pos c3)
      exact K _ _ _ H S R hF
    · replace H := H.2 c3
      replace hF := hF.trans (if_neg c3)
      exact K _ _ _ H S R hF
set_option maxRecDepth 100000 in
noncomputable def qF_newOf (p1 : Int32) (r : q_R) : (Int32 × q_R) := (q_st ((r.2 66 (p1 : Int32).toNatClampNeg) - (r.2 67 (p1 : Int32).toNatClampNeg)) (fun (x_10 : Int32) => (q_st ((r.2 68 (p1 : Int32).toNatClampNeg) - (r.2 67 (p1 : Int32).toNatClampNeg)) (fun (x_17 : Int32) => (q_st2 (qF_sentInAll r) (fun (x_19 : Int32) r1 => (q_st ((r.1 1589) - x_19) (fun (x_20 : Int32) => (if (x_17 ≤ x_10) then (qF_newOf_49 x_20 x_17 r1) else (qF_newOf_49 x_20 x_10 r1))))))))))
set_option maxRecDepth 100000 in
theorem qE_newOf (p1 : Int32) (r : q_R) : qF_newOf p1 r = (q_st ((r.2 66 (p1 : Int32).toNatClampNeg) - (r.2 67 (p1 : Int32).toNatClampNeg)) (fun (x_10 : Int32) => (q_st ((r.2 68 (p1 : Int32).toNatClampNeg) - (r.2 67 (p1 : Int32).toNatClampNeg)) (fun (x_17 : Int32) => (q_st2 (qF_sentInAll r) (fun (x_19 : Int32) r1 => (q_st ((r.1 1589) - x_19) (fun (x_20 : Int32) => (if (x_17 ≤ x_10) then (qF_newOf_49 x_20 x_17 r1) else (qF_newOf_49 x_20 x_10 r1)))))))))) := rfl
set_option maxRecDepth 100000 in
set_option maxHeartbeats 4000000 in
theorem qS_newOf {n : Nat} {Q Post : Int32 → z_Mem → Prop} {p1 : Int32} {M : z_Mem} {r : q_R} (S : y_S n M) (R : q_rep n M r) (H : P_X12_newOf (n + 40) p1 M Q) (K : ∀ x M1 r1, Q x M1 → y_S n M1 → q_rep n M1 r1 → qF_newOf p1 r = (x, r1) → Post x M1) : P_X12_newOf (n + 40) p1 M Post := by
  have hF := qE_newOf p1 r
  unfold P_X12_newOf at H ⊢
  replace H := z_nne (s_1586_40 S) H
  refine z_nn_of (s_1586_40 S) ?_
  refine And.intro H.1 ?_
  replace H := H.2
  replace H := z_nne (s_1587_40 S) H
  refine z_nn_of (s_1587_40 S) ?_
  refine And.intro H.1 ?_
  replace H := H.2
  try simp only [qa_66 R, qa_67 R] at H ⊢
  intro x_10 e_x_10
  replace H := H x_10 e_x_10
  replace hF := hF.trans (q_ste e_x_10)
  replace H := z_nne (s_1588_40 S) H
  refine z_nn_of (s_1588_40 S) ?_
  refine And.intro H.1 ?_
  replace H := H.2
  replace H := z_nne (s_1587_40 S) H
  refine z_nn_of (s_1587_40 S) ?_
  refine And.intro H.1 ?_
  replace H := H.2
  try simp only [qa_67 R, qa_68 R] at H ⊢
  intro x_17 e_x_17
  replace H := H x_17 e_x_17
  replace hF := hF.trans (q_ste e_x_17)
  refine qS_sentInAll S R H (fun x_19 M_19 r_M_19 H S_M_19 R_M_19 u => ?_)
  replace hF := hF.trans (q_ste2 u)
  try simp only [qf_1589 R] at H ⊢
  intro x_20 e_x_20
  replace H := H x_20 e_x_20
  replace hF := hF.trans (q_ste e_x_20)
  refine And.intro (fun c1 => ?_) (fun c1 => ?_)
  · replace H := H.1 c1
    replace hF := hF.trans (if_pos c1)
    exact qS_newOf_49 S_M_19 R_M_19 H (fun x M1 r1 q1 q2 q3 u => K x M1 r1 q1 q2 q3 (hF.trans u))
  · replace H := H.2 c1
    replace hF := hF.trans (if_neg c1)
    exact qS_newOf_49 S_M_19 R_M_19 H (fun x M1 r1 q1 q2 q3 u => K x M1 r1 q1 q2 q3 (hF.trans u))
set_option maxRecDepth 100000 in
noncomputable def qF_canTake_52 (x1 : Int32) (x3 : Int32) (r : q_R) : (Int32 × q_R) := (q_st2 (qF_inFlight x1 r) (fun (x_1 : Int32) r1 => (if ((r1.2 84 (x1 : Int32).toNatClampNeg) < (16 * (x_1 + 1))) then (0, r1) else (if (x3 ≤ (r1.2 105 (x1 : Int32).toNatClampNeg)) then (0, r1) else (1, r1)))))
set_option maxRecDepth 100000 in
theorem qE_canTake_52 (x1 : Int32) (x3 : Int32) (r : q_R) : qF_canTake_52 x1 x3 r = (q_st2 (qF_inFlight x1 r) (fun (x_1 : Int32) r1 => (if ((r1.2 84 (x1 : Int32).toNatClampNeg) < (16 * (x_1 + 1))) then (0, r1) else (if (x3 ≤ (r1.2 105 (x1 : Int32).toNatClampNeg)) then (0, r1) else (1, r1))))) := rfl
set_option maxRecDepth 100000 in
set_option maxHeartbeats 4000000 in
theorem qS_canTake_52 {n : Nat} {Q Post : Int32 → z_Mem → Prop} {x1 : Int32} {x3 : Int32} {M : z_Mem} {r : q_R} (S : y_S n M) (R : q_rep n M r) (H : P_X12_canTake_52 (n + 40) Q x1 x3 M) (K : ∀ x M1 r1, Q x M1 → y_S n M1 → q_rep n M1 r1 → qF_canTake_52 x1 x3 r = (x, r1) → Post x M1) : P_X12_canTake_52 (n + 40) Post x1 x3 M := by
  have hF := qE_canTake_52 x1 x3 r
  unfold P_X12_canTake_52 at H ⊢
  refine qS_inFlight S R H (fun x_1 M_1 r_M_1 H S_M_1 R_M_1 u => ?_)
  replace hF := hF.trans (q_ste2 u)
  replace H := z_nne (s_1607_40 S_M_1) H
  refine z_nn_of (s_1607_40 S_M_1) ?_
  refine And.intro H.1 ?_
  replace H := H.2
  try simp only [qa_84 R_M_1] at H ⊢
  refine And.intro (fun c1 => ?_) (fun c1 => ?_)
  · replace H := H.1 c1
    replace hF := hF.trans (if_pos c1)
    exact K _ _ _ H S_M_1 R_M_1 hF
  · replace H := H.2 c1
    replace hF := hF.trans (if_neg c1)
    replace H := z_nne (s_1628_40 S_M_1) H
    refine z_nn_of (s_1628_40 S_M_1) ?_
    refine And.intro H.1 ?_
    replace H := H.2
    try simp only [qa_105 R_M_1] at H ⊢
    refine And.intro (fun c2 => ?_) (fun c2 => ?_)
    · replace H := H.1 c2
      replace hF := hF.trans (if_pos c2)
      exact K _ _ _ H S_M_1 R_M_1 hF
    · replace H := H.2 c2
      replace hF := hF.trans (if_neg c2)
      exact K _ _ _ H S_M_1 R_M_1 hF
