/-! ===== THE REFERENCE: what comes out, 4 ===== -/
set_option maxRecDepth 100000 in
set_option maxHeartbeats 4000000 in
theorem qX_probesOn_36 {n : Nat} {X : Prop} {Q : z_Mem → Prop} {QJ9 : Int32 → Int32 → Int32 → z_Mem → Prop} {x1 : Int32} {x2 : Int32} {x3 : Int32} {M : z_Mem} {r : q_R} (S : y_S n M) (R : q_rep n M r) (H : P_X12_probesOn_36 (n + 40) Q QJ9 x1 x2 x3 M) (K : ∀ M1 r1, Q M1 → y_S n M1 → q_rep n M1 r1 → qF_probesOn_36 x1 x2 x3 r = (.inr r1) → X) (KJ9 : ∀ v0 v1 v2 M1 r1, QJ9 v0 v1 v2 M1 → y_S n M1 → q_rep n M1 r1 → qF_probesOn_36 x1 x2 x3 r = (.inl (v0, v1, v2, r1)) → X) : X := by
  have hF := qE_probesOn_36 x1 x2 x3 r
  unfold P_X12_probesOn_36 at H
  exact qX_probesOn_37 S R H (fun M1 r1 q1 q2 q3 u => K M1 r1 q1 q2 q3 (hF.trans u)) (fun v0 v1 v2 M1 r1 q1 q2 q3 u => KJ9 v0 v1 v2 M1 r1 q1 q2 q3 (hF.trans u))
set_option maxRecDepth 100000 in
set_option maxHeartbeats 4000000 in
theorem qX_probesOn_88 {n : Nat} {X : Prop} {Q : z_Mem → Prop} {x1 : Int32} {x2 : Int32} {t0 : Int32} {t1 : Int32} {M : z_Mem} {r : q_R} (S : y_S n M) (R : q_rep n M r) (H : P_X12_probesOn_88 (n + 40) Q x1 x2 t0 t1 M) (K : ∀ M1 r1, Q M1 → y_S n M1 → q_rep n M1 r1 → qF_probesOn_88 x1 x2 t0 t1 r = r1 → X) : X := by
  have hF := qE_probesOn_88 x1 x2 t0 t1 r
  unfold P_X12_probesOn_88 at H
  obtain ⟨x_2, e_x_2, H⟩ := q_all H
  replace hF := hF.trans (q_ste e_x_2)
  rcases q_em H with ⟨c1, H⟩ | ⟨c1, H⟩
  · skip
    replace hF := hF.trans (if_pos c1)
    exact K _ _ H S R hF
  · skip
    replace hF := hF.trans (if_neg c1)
    try simp only [qf_1606 R] at H
    rcases q_em H with ⟨c2, H⟩ | ⟨c2, H⟩
    · skip
      replace hF := hF.trans (if_pos c2)
      exact K _ _ H S R hF
    · skip
      replace hF := hF.trans (if_neg c2)
      replace H := z_nne (s_1618_40 S) H
      replace H := H.2
      try simp only [qa_95 R, qf_1536 R] at H
      rcases q_em H with ⟨c3, H⟩ | ⟨c3, H⟩
      · skip
        replace hF := hF.trans (if_pos c3)
        exact K _ _ H S R hF
      · skip
        replace hF := hF.trans (if_neg c3)
        replace H := z_nne (s_1619_40 S) H
        replace H := H.2
        replace H := H.2
        try simp only [qa_96 R] at H
        obtain ⟨M_15, e_M_15, H⟩ := q_all H
        have S_M_15 : y_S n M_15 := by rw [e_M_15]; exact S_sai S
        have R_M_15 := rep_sai R (by decide) (by decide) e_M_15
        obtain ⟨r_M_15, h_M_15⟩ := q_gen R_M_15
        replace hF := hF.trans (q_ste h_M_15.2)
        replace R_M_15 := h_M_15.1
        replace H := z_nne (s_1629_40 S_M_15) H
        replace H := H.2
        replace H := H.2
        try simp only [qa_106 R_M_15] at H
        obtain ⟨M_20, e_M_20, H⟩ := q_all H
        have S_M_20 : y_S n M_20 := by rw [e_M_20]; exact S_sai S_M_15
        have R_M_20 := rep_sai R_M_15 (by decide) (by decide) e_M_20
        obtain ⟨r_M_20, h_M_20⟩ := q_gen R_M_20
        replace hF := hF.trans (q_ste h_M_20.2)
        replace R_M_20 := h_M_20.1
        replace H := z_nne (s_1595_40 S_M_20) H
        replace H := H.2
        replace H := z_nne (s_1596_40 S_M_20) H
        replace H := H.2
        replace H := z_nne (s_1597_40 S_M_20) H
        replace H := H.2
        try simp only [qa_73 R_M_20, qa_74 R_M_20, qa_75 R_M_20] at H
        refine qX_sends S_M_20 R_M_20 H (fun M_30 r_M_30 H S_M_30 R_M_30 u => ?_)
        replace hF := hF.trans (q_ste u.symm)
        exact K _ _ H S_M_30 R_M_30 hF
set_option maxRecDepth 100000 in
set_option maxHeartbeats 4000000 in
theorem qX_probesOn_9 {n : Nat} {X : Prop} {Q : z_Mem → Prop} : ∀ (m : Nat) {x1 : Int32} {x2 : Int32} {x3 : Int32} {M : z_Mem} {r : q_R} (S : y_S n M) (R : q_rep n M r) (H : P_X12_probesOn_9 (n + 40) Q m x1 x2 x3 M) (K : ∀ M1 r1, Q M1 → y_S n M1 → q_rep n M1 r1 → qF_probesOn_9 x1 x2 x3 r = r1 → X), X := by
  intro m
  induction m with
  | zero => intros; rename_i H _; exact False.elim H
  | succ m ih =>
    intro x1 x2 x3 M r S R H K
    have hF := qE_probesOn_9 x1 x2 x3 r
    unfold P_X12_probesOn_9 at H
    rcases q_em H with ⟨c1, H⟩ | ⟨c1, H⟩
    · skip
      replace hF := hF.trans (if_pos c1)
      replace H := z_nne (s_1610_40 S) H
      replace H := H.2
      replace H := z_nne (s_1611_40 S) H
      replace H := H.2
      try simp only [qa_88 R] at H
      refine qX_max S R H (fun x_38 M_38 r_M_38 H S_M_38 R_M_38 u => ?_)
      replace hF := hF.trans (q_ste2 u)
      replace H := z_nne (s_1619_40 S_M_38) H
      replace H := H.2
      try simp only [qa_96 R_M_38] at H
      rcases q_em H with ⟨c2, H⟩ | ⟨c2, H⟩
      · skip
        replace hF := hF.trans (if_pos c2)
        replace H := z_nne (s_1619_40 S_M_38) H
        replace H := H.2
        try simp only [qa_87 R, qa_96 R_M_38] at H
        exact qX_probesOn_88 S_M_38 R_M_38 H (fun M1 r1 q1 q2 q3 u => K M1 r1 q1 q2 q3 (qUr_probesOn_9 (hF.trans (congrArg Sum.inr u))))
      · skip
        replace hF := hF.trans (if_neg c2)
        try simp only [qa_87 R] at H
        exact qX_probesOn_88 S_M_38 R_M_38 H (fun M1 r1 q1 q2 q3 u => K M1 r1 q1 q2 q3 (qUr_probesOn_9 (hF.trans (congrArg Sum.inr u))))
    · skip
      replace hF := hF.trans (if_neg c1)
      replace H := z_nne (s_1593_40 S) H
      replace H := H.2
      try simp only [qa_71 R] at H
      rcases q_em H with ⟨c3, H⟩ | ⟨c3, H⟩
      · skip
        replace hF := hF.trans (if_pos c3)
        replace H := z_nne (s_1598_40 S) H
        replace H := H.2
        try simp only [qa_76 R] at H
        rcases q_em H with ⟨c4, H⟩ | ⟨c4, H⟩
        · skip
          replace hF := hF.trans (if_pos c4)
          exact qX_probesOn_37 S R H (fun M1 r1 q1 q2 q3 u => K M1 r1 q1 q2 q3 (qUr_probesOn_9 (hF.trans u))) (fun v0 v1 v2 M1 r1 q1 q2 q3 u => ih q2 q3 q1 (fun M1 r1 q1 q2 q3 u2 => K M1 r1 q1 q2 q3 ((qUl_probesOn_9 (hF.trans u)).trans u2))) 
        · skip
          replace hF := hF.trans (if_neg c4)
          exact qX_probesOn_36 S R H (fun M1 r1 q1 q2 q3 u => K M1 r1 q1 q2 q3 (qUr_probesOn_9 (hF.trans u))) (fun v0 v1 v2 M1 r1 q1 q2 q3 u => ih q2 q3 q1 (fun M1 r1 q1 q2 q3 u2 => K M1 r1 q1 q2 q3 ((qUl_probesOn_9 (hF.trans u)).trans u2))) 
      · skip
        replace hF := hF.trans (if_neg c3)
        exact qX_probesOn_36 S R H (fun M1 r1 q1 q2 q3 u => K M1 r1 q1 q2 q3 (qUr_probesOn_9 (hF.trans u))) (fun v0 v1 v2 M1 r1 q1 q2 q3 u => ih q2 q3 q1 (fun M1 r1 q1 q2 q3 u2 => K M1 r1 q1 q2 q3 ((qUl_probesOn_9 (hF.trans u)).trans u2))) 
set_option maxRecDepth 100000 in
set_option maxHeartbeats 4000000 in
theorem qX_probesOn {n : Nat} {X : Prop} {Q : z_Mem → Prop} {p1 : Int32} {M : z_Mem} {r : q_R} (S : y_S n M) (R : q_rep n M r) (H : P_X12_probesOn (n + 40) p1 M Q) (K : ∀ M1 r1, Q M1 → y_S n M1 → q_rep n M1 r1 → qF_probesOn p1 r = r1 → X) : X := by
  have hF := qE_probesOn p1 r
  unfold P_X12_probesOn at H
  try simp only [qf_1606 R] at H
  obtain ⟨x_55, e_x_55, H⟩ := q_all H
  replace hF := hF.trans (q_ste e_x_55)
  obtain ⟨m, H⟩ := H
  exact qX_probesOn_9 m S R H (fun M1 r1 q1 q2 q3 u => K M1 r1 q1 q2 q3 (hF.trans u))
set_option maxRecDepth 100000 in
set_option maxHeartbeats 4000000 in
theorem qX_connect_20 {n : Nat} {X : Prop} {Q : z_Mem → Prop} {x1 : Int32} {t1 : Int32} {t2 : Int32} {o_t0 : Option Nat} {M : z_Mem} {r : q_R} (ho_t0 : o_t0 = some (n + 40)) (S : y_S n M) (R : q_rep n M r) (H : P_X12_connect_20 (n + 40) Q x1 o_t0 t1 t2 M) (K : ∀ M1 r1, Q M1 → y_S n M1 → q_rep n M1 r1 → qF_connect_20 x1 t1 t2 r = r1 → X) : X := by
  subst ho_t0
  have hF := qE_connect_20 x1 t1 t2 r
  unfold P_X12_connect_20 at H
  replace H := z_nne rfl H
  refine qX_goes S R H (fun x_1 M_1 r_M_1 H S_M_1 R_M_1 u => ?_)
  replace hF := hF.trans (q_ste2 u)
  rcases q_em H with ⟨c1, H⟩ | ⟨c1, H⟩
  · skip
    replace hF := hF.trans (if_pos c1)
    exact K _ _ H S_M_1 R_M_1 hF
  · skip
    replace hF := hF.trans (if_neg c1)
    obtain ⟨M_4, e_M_4, H⟩ := q_all H
    have S_M_4 : y_S n M_4 := by rw [e_M_4]; exact S_sfi S_M_1
    have R_M_4 := rep_sfi R_M_1 e_M_4
    obtain ⟨r_M_4, h_M_4⟩ := q_gen R_M_4
    replace hF := hF.trans (q_ste h_M_4.2)
    replace R_M_4 := h_M_4.1
    obtain ⟨M_5, e_M_5, H⟩ := q_all H
    have S_M_5 : y_S n M_5 := by rw [e_M_5]; exact S_sfi S_M_4
    have R_M_5 := rep_sfi R_M_4 e_M_5
    obtain ⟨r_M_5, h_M_5⟩ := q_gen R_M_5
    replace hF := hF.trans (q_ste h_M_5.2)
    replace R_M_5 := h_M_5.1
    obtain ⟨M_6, e_M_6, H⟩ := q_all H
    have S_M_6 : y_S n M_6 := by rw [e_M_6]; exact S_sfi S_M_5
    have R_M_6 := rep_sfi R_M_5 e_M_6
    obtain ⟨r_M_6, h_M_6⟩ := q_gen R_M_6
    replace hF := hF.trans (q_ste h_M_6.2)
    replace R_M_6 := h_M_6.1
    refine qX_saysHello S_M_6 R_M_6 H (fun M_7 r_M_7 H S_M_7 R_M_7 u => ?_)
    replace hF := hF.trans (q_ste u.symm)
    exact K _ _ H S_M_7 R_M_7 hF
set_option maxRecDepth 100000 in
set_option maxHeartbeats 4000000 in
theorem qX_connect {n : Nat} {X : Prop} {Q : z_Mem → Prop} {p1 : Int32} {M : z_Mem} {r : q_R} (S : y_S n M) (R : q_rep n M r) (H : P_X12_connect (n + 40) p1 M Q) (K : ∀ M1 r1, Q M1 → y_S n M1 → q_rep n M1 r1 → qF_connect p1 r = r1 → X) : X := by
  have hF := qE_connect p1 r
  unfold P_X12_connect at H
  refine qX_in S R H (fun x_8 M_8 r_M_8 H S_M_8 R_M_8 u => ?_)
  replace hF := hF.trans (q_ste2 u)
  try simp only [qf_1577 R_M_8] at H
  rcases q_em H with ⟨c1, H⟩ | ⟨c1, H⟩
  · skip
    replace hF := hF.trans (if_pos c1)
    exact qX_connect_20 rfl S_M_8 R_M_8 H (fun M1 r1 q1 q2 q3 u => K M1 r1 q1 q2 q3 (hF.trans u))
  · skip
    replace hF := hF.trans (if_neg c1)
    exact qX_connect_20 rfl S_M_8 R_M_8 H (fun M1 r1 q1 q2 q3 u => K M1 r1 q1 q2 q3 (hF.trans u))
set_option maxRecDepth 100000 in
set_option maxHeartbeats 4000000 in
theorem qX_write_49 {n : Nat} {X : Prop} {Q : Int32 → z_Mem → Prop} {x1 : Int32} {x2 : Int32} {t1 : Int32} {t2 : Int32} {t3 : Int32} {o_t0 : Option Nat} {M : z_Mem} {r : q_R} (ho_t0 : o_t0 = some (n + 40)) (S : y_S n M) (R : q_rep n M r) (H : P_X12_write_49 (n + 40) Q x1 x2 o_t0 t1 t2 t3 M) (K : ∀ x M1 r1, Q x M1 → y_S n M1 → q_rep n M1 r1 → qF_write_49 x1 x2 t1 t2 t3 r = (x, r1) → X) : X := by
  subst ho_t0
  have hF := qE_write_49 x1 x2 t1 t2 t3 r
  unfold P_X12_write_49 at H
  replace H := z_nne rfl H
  refine qX_goes S R H (fun x_1 M_1 r_M_1 H S_M_1 R_M_1 u => ?_)
  replace hF := hF.trans (q_ste2 u)
  rcases q_em H with ⟨c1, H⟩ | ⟨c1, H⟩
  · skip
    replace hF := hF.trans (if_pos c1)
    exact K _ _ _ H S_M_1 R_M_1 hF
  · skip
    replace hF := hF.trans (if_neg c1)
    replace H := z_nne (s_1586_40 S_M_1) H
    replace H := H.2
    replace H := H.2
    try simp only [qa_66 R_M_1] at H
    obtain ⟨M_8, e_M_8, H⟩ := q_all H
    have S_M_8 : y_S n M_8 := by rw [e_M_8]; exact S_sai S_M_1
    have R_M_8 := rep_sai R_M_1 (by decide) (by decide) e_M_8
    obtain ⟨r_M_8, h_M_8⟩ := q_gen R_M_8
    replace hF := hF.trans (q_ste h_M_8.2)
    replace R_M_8 := h_M_8.1
    replace H := z_nne (s_1586_40 S_M_8) H
    replace H := H.2
    try simp only [qa_66 R_M_8] at H
    exact K _ _ _ H S_M_8 R_M_8 hF
set_option maxRecDepth 100000 in
set_option maxHeartbeats 4000000 in
theorem qX_write_48 {n : Nat} {X : Prop} {Q : Int32 → z_Mem → Prop} {x1 : Int32} {x2 : Int32} {t1 : Int32} {t2 : Int32} {o_t0 : Option Nat} {M : z_Mem} {r : q_R} (ho_t0 : o_t0 = some (n + 40)) (S : y_S n M) (R : q_rep n M r) (H : P_X12_write_48 (n + 40) Q x1 x2 o_t0 t1 t2 M) (K : ∀ x M1 r1, Q x M1 → y_S n M1 → q_rep n M1 r1 → qF_write_48 x1 x2 t1 t2 r = (x, r1) → X) : X := by
  subst ho_t0
  have hF := qE_write_48 x1 x2 t1 t2 r
  unfold P_X12_write_48 at H
  exact qX_write_49 rfl S R H (fun x M1 r1 q1 q2 q3 u => K x M1 r1 q1 q2 q3 (hF.trans u))
set_option maxRecDepth 100000 in
set_option maxHeartbeats 4000000 in
theorem qX_write {n : Nat} {X : Prop} {Q : Int32 → z_Mem → Prop} {p1 : Int32} {p2 : Int32} {M : z_Mem} {r : q_R} (S : y_S n M) (R : q_rep n M r) (H : P_X12_write (n + 40) p1 p2 M Q) (K : ∀ x M1 r1, Q x M1 → y_S n M1 → q_rep n M1 r1 → qF_write p1 p2 r = (x, r1) → X) : X := by
  have hF := qE_write p1 p2 r
  unfold P_X12_write at H
  refine qX_isStream S R H (fun x_12 M_12 r_M_12 H S_M_12 R_M_12 u => ?_)
  replace hF := hF.trans (q_ste2 u)
  refine qX_in S_M_12 R_M_12 H (fun x_13 M_13 r_M_13 H S_M_13 R_M_13 u => ?_)
  replace hF := hF.trans (q_ste2 u)
  rcases q_em H with ⟨c1, H⟩ | ⟨c1, H⟩
  · skip
    replace hF := hF.trans (if_pos c1)
    exact qX_write_48 rfl S_M_13 R_M_13 H (fun x M1 r1 q1 q2 q3 u => K x M1 r1 q1 q2 q3 (hF.trans u))
  · skip
    replace hF := hF.trans (if_neg c1)
    refine qX_in S_M_13 R_M_13 H (fun x_15 M_15 r_M_15 H S_M_15 R_M_15 u => ?_)
    replace hF := hF.trans (q_ste2 u)
    rcases q_em H with ⟨c2, H⟩ | ⟨c2, H⟩
    · skip
      replace hF := hF.trans (if_pos c2)
      exact qX_write_48 rfl S_M_15 R_M_15 H (fun x M1 r1 q1 q2 q3 u => K x M1 r1 q1 q2 q3 (hF.trans u))
    · skip
      replace hF := hF.trans (if_neg c2)
      replace H := z_nne (s_1586_40 S_M_15) H
      replace H := H.2
      try simp only [qa_66 R_M_15] at H
      rcases q_em H with ⟨c3, H⟩ | ⟨c3, H⟩
      · skip
        replace hF := hF.trans (if_pos c3)
        exact qX_write_48 rfl S_M_15 R_M_15 H (fun x M1 r1 q1 q2 q3 u => K x M1 r1 q1 q2 q3 (hF.trans u))
      · skip
        replace hF := hF.trans (if_neg c3)
        exact qX_write_49 rfl S_M_15 R_M_15 H (fun x M1 r1 q1 q2 q3 u => K x M1 r1 q1 q2 q3 (hF.trans u))
set_option maxRecDepth 100000 in
set_option maxHeartbeats 4000000 in
theorem qX_setWay {n : Nat} {X : Prop} {Q : Int32 → z_Mem → Prop} {p1 : Int32} {p2 : Int32} {M : z_Mem} {r : q_R} (S : y_S n M) (R : q_rep n M r) (H : P_X12_setWay (n + 40) p1 p2 M Q) (K : ∀ x M1 r1, Q x M1 → y_S n M1 → q_rep n M1 r1 → qF_setWay p1 p2 r = (x, r1) → X) : X := by
  have hF := qE_setWay p1 p2 r
  unfold P_X12_setWay at H
  refine qX_isPath S R H (fun x_1 M_1 r_M_1 H S_M_1 R_M_1 u => ?_)
  replace hF := hF.trans (q_ste2 u)
  refine qX_in S_M_1 R_M_1 H (fun x_2 M_2 r_M_2 H S_M_2 R_M_2 u => ?_)
  replace hF := hF.trans (q_ste2 u)
  refine qX_goes S_M_2 R_M_2 H (fun x_3 M_3 r_M_3 H S_M_3 R_M_3 u => ?_)
  replace hF := hF.trans (q_ste2 u)
  rcases q_em H with ⟨c1, H⟩ | ⟨c1, H⟩
  · skip
    replace hF := hF.trans (if_pos c1)
    exact K _ _ _ H S_M_3 R_M_3 hF
  · skip
    replace hF := hF.trans (if_neg c1)
    replace H := z_nne (s_1609_40 S_M_3) H
    replace H := H.2
    try simp only [qa_86 R_M_3] at H
    obtain ⟨x_8, e_x_8, H⟩ := q_all H
    replace hF := hF.trans (q_ste e_x_8)
    replace H := z_nne (s_1609_40 S_M_3) H
    replace H := H.2
    obtain ⟨M_12, e_M_12, H⟩ := q_all H
    have S_M_12 : y_S n M_12 := by rw [e_M_12]; exact S_sai S_M_3
    have R_M_12 := rep_sai R_M_3 (by decide) (by decide) e_M_12
    obtain ⟨r_M_12, h_M_12⟩ := q_gen R_M_12
    replace hF := hF.trans (q_ste h_M_12.2)
    replace R_M_12 := h_M_12.1
    exact K _ _ _ H S_M_12 R_M_12 hF
set_option maxRecDepth 100000 in
set_option maxHeartbeats 4000000 in
theorem qX_check {n : Nat} {X : Prop} {Q : z_Mem → Prop} {p1 : Int32} {M : z_Mem} {r : q_R} (S : y_S n M) (R : q_rep n M r) (H : P_X12_check (n + 40) p1 M Q) (K : ∀ M1 r1, Q M1 → y_S n M1 → q_rep n M1 r1 → qF_check p1 r = r1 → X) : X := by
  have hF := qE_check p1 r
  unfold P_X12_check at H
  refine qX_isPath S R H (fun x_1 M_1 r_M_1 H S_M_1 R_M_1 u => ?_)
  replace hF := hF.trans (q_ste2 u)
  try simp only [qf_1577 R_M_1] at H
  rcases q_em H with ⟨c1, H⟩ | ⟨c1, H⟩
  · skip
    replace hF := hF.trans (if_pos c1)
    refine qX_goes S_M_1 R_M_1 H (fun x_7 M_7 r_M_7 H S_M_7 R_M_7 u => ?_)
    replace hF := hF.trans (q_ste2 u)
    rcases q_em H with ⟨c2, H⟩ | ⟨c2, H⟩
    · skip
      replace hF := hF.trans (if_pos c2)
      exact K _ _ H S_M_7 R_M_7 hF
    · skip
      replace hF := hF.trans (if_neg c2)
      refine qX_puts S_M_7 R_M_7 H (fun M_9 r_M_9 H S_M_9 R_M_9 u => ?_)
      replace hF := hF.trans (q_ste u.symm)
      exact K _ _ H S_M_9 R_M_9 hF
  · skip
    replace hF := hF.trans (if_neg c1)
    refine qX_goes S_M_1 R_M_1 H (fun x_4 M_4 r_M_4 H S_M_4 R_M_4 u => ?_)
    replace hF := hF.trans (q_ste2 u)
    rcases q_em H with ⟨c3, H⟩ | ⟨c3, H⟩
    · skip
      replace hF := hF.trans (if_pos c3)
      exact K _ _ H S_M_4 R_M_4 hF
    · skip
      replace hF := hF.trans (if_neg c3)
      refine qX_puts S_M_4 R_M_4 H (fun M_6 r_M_6 H S_M_6 R_M_6 u => ?_)
      replace hF := hF.trans (q_ste u.symm)
      exact K _ _ H S_M_6 R_M_6 hF
set_option maxRecDepth 100000 in
set_option maxHeartbeats 4000000 in
theorem qX_use_45 {n : Nat} {X : Prop} {Q : Int32 → z_Mem → Prop} {x1 : Int32} {t1 : Int32} {t2 : Int32} {o_t0 : Option Nat} {M : z_Mem} {r : q_R} (ho_t0 : o_t0 = some (n + 40)) (S : y_S n M) (R : q_rep n M r) (H : P_X12_use_45 (n + 40) Q x1 o_t0 t1 t2 M) (K : ∀ x M1 r1, Q x M1 → y_S n M1 → q_rep n M1 r1 → qF_use_45 x1 t1 t2 r = (x, r1) → X) : X := by
  subst ho_t0
  have hF := qE_use_45 x1 t1 t2 r
  unfold P_X12_use_45 at H
  replace H := z_nne rfl H
  refine qX_goes S R H (fun x_1 M_1 r_M_1 H S_M_1 R_M_1 u => ?_)
  replace hF := hF.trans (q_ste2 u)
  rcases q_em H with ⟨c1, H⟩ | ⟨c1, H⟩
  · skip
    replace hF := hF.trans (if_pos c1)
    exact K _ _ _ H S_M_1 R_M_1 hF
  · skip
    replace hF := hF.trans (if_neg c1)
    try simp only [qf_1583 R_M_1] at H
    obtain ⟨x_5, e_x_5, H⟩ := q_all H
    replace hF := hF.trans (q_ste e_x_5)
    obtain ⟨M_6, e_M_6, H⟩ := q_all H
    have S_M_6 : y_S n M_6 := by rw [e_M_6]; exact S_sfi S_M_1
    have R_M_6 := rep_sfi R_M_1 e_M_6
    obtain ⟨r_M_6, h_M_6⟩ := q_gen R_M_6
    replace hF := hF.trans (q_ste h_M_6.2)
    replace R_M_6 := h_M_6.1
    exact K _ _ _ H S_M_6 R_M_6 hF
set_option maxRecDepth 100000 in
set_option maxHeartbeats 4000000 in
theorem qX_use_40 {n : Nat} {X : Prop} {Q : Int32 → z_Mem → Prop} {x1 : Int32} {t1 : Int32} {o_t0 : Option Nat} {M : z_Mem} {r : q_R} (ho_t0 : o_t0 = some (n + 40)) (S : y_S n M) (R : q_rep n M r) (H : P_X12_use_40 (n + 40) Q x1 o_t0 t1 M) (K : ∀ x M1 r1, Q x M1 → y_S n M1 → q_rep n M1 r1 → qF_use_40 x1 t1 r = (x, r1) → X) : X := by
  subst ho_t0
  have hF := qE_use_40 x1 t1 r
  unfold P_X12_use_40 at H
  exact qX_use_45 rfl S R H (fun x M1 r1 q1 q2 q3 u => K x M1 r1 q1 q2 q3 (hF.trans u))
set_option maxRecDepth 100000 in
set_option maxHeartbeats 4000000 in
theorem qX_use_44 {n : Nat} {X : Prop} {Q : Int32 → z_Mem → Prop} {x1 : Int32} {t1 : Int32} {o_t0 : Option Nat} {M : z_Mem} {r : q_R} (ho_t0 : o_t0 = some (n + 40)) (S : y_S n M) (R : q_rep n M r) (H : P_X12_use_44 (n + 40) Q x1 o_t0 t1 M) (K : ∀ x M1 r1, Q x M1 → y_S n M1 → q_rep n M1 r1 → qF_use_44 x1 t1 r = (x, r1) → X) : X := by
  subst ho_t0
  have hF := qE_use_44 x1 t1 r
  unfold P_X12_use_44 at H
  exact qX_use_45 rfl S R H (fun x M1 r1 q1 q2 q3 u => K x M1 r1 q1 q2 q3 (hF.trans u))
set_option maxRecDepth 100000 in
set_option maxHeartbeats 4000000 in
theorem qX_use_27 {n : Nat} {X : Prop} {Q : Int32 → z_Mem → Prop} {x1 : Int32} {t1 : Int32} {o_t0 : Option Nat} {M : z_Mem} {r : q_R} (ho_t0 : o_t0 = some (n + 40)) (S : y_S n M) (R : q_rep n M r) (H : P_X12_use_27 (n + 40) Q x1 o_t0 t1 M) (K : ∀ x M1 r1, Q x M1 → y_S n M1 → q_rep n M1 r1 → qF_use_27 x1 t1 r = (x, r1) → X) : X := by
  subst ho_t0
  have hF := qE_use_27 x1 t1 r
  unfold P_X12_use_27 at H
  rcases q_em H with ⟨c1, H⟩ | ⟨c1, H⟩
  · skip
    replace hF := hF.trans (if_pos c1)
    exact qX_use_40 rfl S R H (fun x M1 r1 q1 q2 q3 u => K x M1 r1 q1 q2 q3 (hF.trans u))
  · skip
    replace hF := hF.trans (if_neg c1)
    replace H := z_nne (s_1615_40 S) H
    replace H := H.2
    try simp only [qa_92 R] at H
    rcases q_em H with ⟨c2, H⟩ | ⟨c2, H⟩
    · skip
      replace hF := hF.trans (if_pos c2)
      exact qX_use_44 rfl S R H (fun x M1 r1 q1 q2 q3 u => K x M1 r1 q1 q2 q3 (hF.trans u))
    · skip
      replace hF := hF.trans (if_neg c2)
      exact qX_use_40 rfl S R H (fun x M1 r1 q1 q2 q3 u => K x M1 r1 q1 q2 q3 (hF.trans u))
set_option maxRecDepth 100000 in
set_option maxHeartbeats 4000000 in
theorem qX_use {n : Nat} {X : Prop} {Q : Int32 → z_Mem → Prop} {p1 : Int32} {M : z_Mem} {r : q_R} (S : y_S n M) (R : q_rep n M r) (H : P_X12_use (n + 40) p1 M Q) (K : ∀ x M1 r1, Q x M1 → y_S n M1 → q_rep n M1 r1 → qF_use p1 r = (x, r1) → X) : X := by
  have hF := qE_use p1 r
  unfold P_X12_use at H
  refine qX_in S R H (fun x_12 M_12 r_M_12 H S_M_12 R_M_12 u => ?_)
  replace hF := hF.trans (q_ste2 u)
  rcases q_em H with ⟨c1, H⟩ | ⟨c1, H⟩
  · skip
    replace hF := hF.trans (if_pos c1)
    exact qX_use_44 rfl S_M_12 R_M_12 H (fun x M1 r1 q1 q2 q3 u => K x M1 r1 q1 q2 q3 (hF.trans u))
  · skip
    replace hF := hF.trans (if_neg c1)
    rcases q_em H with ⟨c2, H⟩ | ⟨c2, H⟩
    · skip
      replace hF := hF.trans (if_pos c2)
      exact qX_use_27 rfl S_M_12 R_M_12 H (fun x M1 r1 q1 q2 q3 u => K x M1 r1 q1 q2 q3 (hF.trans u))
    · skip
      replace hF := hF.trans (if_neg c2)
      replace H := z_nne (s_1615_40 S_M_12) H
      replace H := H.2
      try simp only [qa_92 R_M_12] at H
      rcases q_em H with ⟨c3, H⟩ | ⟨c3, H⟩
      · skip
        replace hF := hF.trans (if_pos c3)
        exact qX_use_44 rfl S_M_12 R_M_12 H (fun x M1 r1 q1 q2 q3 u => K x M1 r1 q1 q2 q3 (hF.trans u))
      · skip
        replace hF := hF.trans (if_neg c3)
        exact qX_use_27 rfl S_M_12 R_M_12 H (fun x M1 r1 q1 q2 q3 u => K x M1 r1 q1 q2 q3 (hF.trans u))
set_option maxRecDepth 100000 in
set_option maxHeartbeats 4000000 in
theorem qX_changeKey_54 {n : Nat} {X : Prop} {Q : Int32 → z_Mem → Prop} {QJ4 : Int32 → Int32 → z_Mem → Prop} {x2 : Int32} {t0 : Int32} {M : z_Mem} {r : q_R} (S : y_S n M) (R : q_rep n M r) (H : P_X12_changeKey_54 (n + 40) Q QJ4 x2 t0 M) (K : ∀ x M1 r1, Q x M1 → y_S n M1 → q_rep n M1 r1 → qF_changeKey_54 x2 t0 r = (.inr (x, r1)) → X) (KJ4 : ∀ v0 v1 M1 r1, QJ4 v0 v1 M1 → y_S n M1 → q_rep n M1 r1 → qF_changeKey_54 x2 t0 r = (.inl (v0, v1, r1)) → X) : X := by
  have hF := qE_changeKey_54 x2 t0 r
  unfold P_X12_changeKey_54 at H
  obtain ⟨x_1, e_x_1, H⟩ := q_all H
  replace hF := hF.trans (q_ste e_x_1)
  exact KJ4 _ _ _ _ H S R hF
set_option maxRecDepth 100000 in
set_option maxHeartbeats 4000000 in
theorem qX_changeKey_49 {n : Nat} {X : Prop} {Q : Int32 → z_Mem → Prop} {QJ4 : Int32 → Int32 → z_Mem → Prop} {x2 : Int32} {M : z_Mem} {r : q_R} (S : y_S n M) (R : q_rep n M r) (H : P_X12_changeKey_49 (n + 40) Q QJ4 x2 M) (K : ∀ x M1 r1, Q x M1 → y_S n M1 → q_rep n M1 r1 → qF_changeKey_49 x2 r = (.inr (x, r1)) → X) (KJ4 : ∀ v0 v1 M1 r1, QJ4 v0 v1 M1 → y_S n M1 → q_rep n M1 r1 → qF_changeKey_49 x2 r = (.inl (v0, v1, r1)) → X) : X := by
  have hF := qE_changeKey_49 x2 r
  unfold P_X12_changeKey_49 at H
  exact qX_changeKey_54 S R H (fun x M1 r1 q1 q2 q3 u => K x M1 r1 q1 q2 q3 (hF.trans u)) (fun v0 v1 M1 r1 q1 q2 q3 u => KJ4 v0 v1 M1 r1 q1 q2 q3 (hF.trans u))
set_option maxRecDepth 100000 in
set_option maxHeartbeats 4000000 in
theorem qX_changeKey_53 {n : Nat} {X : Prop} {Q : Int32 → z_Mem → Prop} {QJ4 : Int32 → Int32 → z_Mem → Prop} {x2 : Int32} {M : z_Mem} {r : q_R} (S : y_S n M) (R : q_rep n M r) (H : P_X12_changeKey_53 (n + 40) Q QJ4 x2 M) (K : ∀ x M1 r1, Q x M1 → y_S n M1 → q_rep n M1 r1 → qF_changeKey_53 x2 r = (.inr (x, r1)) → X) (KJ4 : ∀ v0 v1 M1 r1, QJ4 v0 v1 M1 → y_S n M1 → q_rep n M1 r1 → qF_changeKey_53 x2 r = (.inl (v0, v1, r1)) → X) : X := by
  have hF := qE_changeKey_53 x2 r
  unfold P_X12_changeKey_53 at H
  exact qX_changeKey_54 S R H (fun x M1 r1 q1 q2 q3 u => K x M1 r1 q1 q2 q3 (hF.trans u)) (fun v0 v1 M1 r1 q1 q2 q3 u => KJ4 v0 v1 M1 r1 q1 q2 q3 (hF.trans u))
set_option maxRecDepth 100000 in
set_option maxHeartbeats 4000000 in
theorem qX_changeKey_79 {n : Nat} {X : Prop} {Q : Int32 → z_Mem → Prop} {t1 : Int32} {o_t0 : Option Nat} {M : z_Mem} {r : q_R} (ho_t0 : o_t0 = some (n + 40)) (S : y_S n M) (R : q_rep n M r) (H : P_X12_changeKey_79 (n + 40) Q o_t0 t1 M) (K : ∀ x M1 r1, Q x M1 → y_S n M1 → q_rep n M1 r1 → qF_changeKey_79 t1 r = (x, r1) → X) : X := by
  subst ho_t0
  have hF := qE_changeKey_79 t1 r
  unfold P_X12_changeKey_79 at H
  replace H := z_nne rfl H
  refine qX_goes S R H (fun x_2 M_2 r_M_2 H S_M_2 R_M_2 u => ?_)
  replace hF := hF.trans (q_ste2 u)
  rcases q_em H with ⟨c1, H⟩ | ⟨c1, H⟩
  · skip
    replace hF := hF.trans (if_pos c1)
    exact K _ _ _ H S_M_2 R_M_2 hF
  · skip
    replace hF := hF.trans (if_neg c1)
    try simp only [qf_1584 R_M_2] at H
    obtain ⟨M_6, e_M_6, H⟩ := q_all H
    have S_M_6 : y_S n M_6 := by rw [e_M_6]; exact S_sfi S_M_2
    have R_M_6 := rep_sfi R_M_2 e_M_6
    obtain ⟨r_M_6, h_M_6⟩ := q_gen R_M_6
    replace hF := hF.trans (q_ste h_M_6.2)
    replace R_M_6 := h_M_6.1
    try simp only [qf_1584 R_M_6] at H
    exact K _ _ _ H S_M_6 R_M_6 hF
set_option maxRecDepth 100000 in
set_option maxHeartbeats 4000000 in
theorem qX_changeKey_78 {n : Nat} {X : Prop} {Q : Int32 → z_Mem → Prop} {o_t0 : Option Nat} {M : z_Mem} {r : q_R} (ho_t0 : o_t0 = some (n + 40)) (S : y_S n M) (R : q_rep n M r) (H : P_X12_changeKey_78 (n + 40) Q o_t0 M) (K : ∀ x M1 r1, Q x M1 → y_S n M1 → q_rep n M1 r1 → qF_changeKey_78 r = (x, r1) → X) : X := by
  subst ho_t0
  have hF := qE_changeKey_78 r
  unfold P_X12_changeKey_78 at H
  exact qX_changeKey_79 rfl S R H (fun x M1 r1 q1 q2 q3 u => K x M1 r1 q1 q2 q3 (hF.trans u))
set_option maxRecDepth 100000 in
set_option maxHeartbeats 4000000 in
theorem qX_changeKey_4 {n : Nat} {X : Prop} {Q : Int32 → z_Mem → Prop} : ∀ (m : Nat) {x1 : Int32} {x2 : Int32} {M : z_Mem} {r : q_R} (S : y_S n M) (R : q_rep n M r) (H : P_X12_changeKey_4 (n + 40) Q m x1 x2 M) (K : ∀ x M1 r1, Q x M1 → y_S n M1 → q_rep n M1 r1 → qF_changeKey_4 x1 x2 r = (x, r1) → X), X := by
  intro m
  induction m with
  | zero => intros; rename_i H _; exact False.elim H
  | succ m ih =>
    intro x1 x2 M r S R H K
    have hF := qE_changeKey_4 x1 x2 r
    unfold P_X12_changeKey_4 at H
    try simp only [qf_1606 R] at H
    rcases q_em H with ⟨c1, H⟩ | ⟨c1, H⟩
    · skip
      replace hF := hF.trans (if_pos c1)
      try simp only [qf_1577 R] at H
      rcases q_em H with ⟨c2, H⟩ | ⟨c2, H⟩
      · skip
        replace hF := hF.trans (if_pos c2)
        rcases q_em H with ⟨c3, H⟩ | ⟨c3, H⟩
        · skip
          replace hF := hF.trans (if_pos c3)
          exact qX_changeKey_78 rfl S R H (fun x M1 r1 q1 q2 q3 u => K x M1 r1 q1 q2 q3 (qUr_changeKey_4 (hF.trans (congrArg Sum.inr u))))
        · skip
          replace hF := hF.trans (if_neg c3)
          exact qX_changeKey_79 rfl S R H (fun x M1 r1 q1 q2 q3 u => K x M1 r1 q1 q2 q3 (qUr_changeKey_4 (hF.trans (congrArg Sum.inr u))))
      · skip
        replace hF := hF.trans (if_neg c2)
        exact qX_changeKey_78 rfl S R H (fun x M1 r1 q1 q2 q3 u => K x M1 r1 q1 q2 q3 (qUr_changeKey_4 (hF.trans (congrArg Sum.inr u))))
    · skip
      replace hF := hF.trans (if_neg c1)
      rcases q_em H with ⟨c4, H⟩ | ⟨c4, H⟩
      · skip
        replace hF := hF.trans (if_pos c4)
        replace H := z_nne (s_1600_40 S) H
        replace H := H.2
        try simp only [qa_78 R, qf_1584 R] at H
        rcases q_em H with ⟨c5, H⟩ | ⟨c5, H⟩
        · skip
          replace hF := hF.trans (if_pos c5)
          replace H := z_nne (s_1598_40 S) H
          replace H := H.2
          try simp only [qa_76 R] at H
          rcases q_em H with ⟨c6, H⟩ | ⟨c6, H⟩
          · skip
            replace hF := hF.trans (if_pos c6)
            exact qX_changeKey_49 S R H (fun x M1 r1 q1 q2 q3 u => K x M1 r1 q1 q2 q3 (qUr_changeKey_4 (hF.trans u))) (fun v0 v1 M1 r1 q1 q2 q3 u => ih q2 q3 q1 (fun x M1 r1 q1 q2 q3 u2 => K x M1 r1 q1 q2 q3 ((qUl_changeKey_4 (hF.trans u)).trans u2))) 
          · skip
            replace hF := hF.trans (if_neg c6)
            replace H := z_nne (s_1598_40 S) H
            replace H := H.2
            try simp only [qa_76 R] at H
            rcases q_em H with ⟨c7, H⟩ | ⟨c7, H⟩
            · skip
              replace hF := hF.trans (if_pos c7)
              exact qX_changeKey_49 S R H (fun x M1 r1 q1 q2 q3 u => K x M1 r1 q1 q2 q3 (qUr_changeKey_4 (hF.trans u))) (fun v0 v1 M1 r1 q1 q2 q3 u => ih q2 q3 q1 (fun x M1 r1 q1 q2 q3 u2 => K x M1 r1 q1 q2 q3 ((qUl_changeKey_4 (hF.trans u)).trans u2))) 
            · skip
              replace hF := hF.trans (if_neg c7)
              exact qX_changeKey_53 S R H (fun x M1 r1 q1 q2 q3 u => K x M1 r1 q1 q2 q3 (qUr_changeKey_4 (hF.trans u))) (fun v0 v1 M1 r1 q1 q2 q3 u => ih q2 q3 q1 (fun x M1 r1 q1 q2 q3 u2 => K x M1 r1 q1 q2 q3 ((qUl_changeKey_4 (hF.trans u)).trans u2))) 
        · skip
          replace hF := hF.trans (if_neg c5)
          exact qX_changeKey_53 S R H (fun x M1 r1 q1 q2 q3 u => K x M1 r1 q1 q2 q3 (qUr_changeKey_4 (hF.trans u))) (fun v0 v1 M1 r1 q1 q2 q3 u => ih q2 q3 q1 (fun x M1 r1 q1 q2 q3 u2 => K x M1 r1 q1 q2 q3 ((qUl_changeKey_4 (hF.trans u)).trans u2))) 
      · skip
        replace hF := hF.trans (if_neg c4)
        exact qX_changeKey_49 S R H (fun x M1 r1 q1 q2 q3 u => K x M1 r1 q1 q2 q3 (qUr_changeKey_4 (hF.trans u))) (fun v0 v1 M1 r1 q1 q2 q3 u => ih q2 q3 q1 (fun x M1 r1 q1 q2 q3 u2 => K x M1 r1 q1 q2 q3 ((qUl_changeKey_4 (hF.trans u)).trans u2))) 
set_option maxRecDepth 100000 in
set_option maxHeartbeats 4000000 in
theorem qX_changeKey {n : Nat} {X : Prop} {Q : Int32 → z_Mem → Prop} {M : z_Mem} {r : q_R} (S : y_S n M) (R : q_rep n M r) (H : P_X12_changeKey (n + 40) M Q) (K : ∀ x M1 r1, Q x M1 → y_S n M1 → q_rep n M1 r1 → qF_changeKey r = (x, r1) → X) : X := by
  have hF := qE_changeKey r
  unfold P_X12_changeKey at H
  obtain ⟨m, H⟩ := H
  exact qX_changeKey_4 m S R H (fun x M1 r1 q1 q2 q3 u => K x M1 r1 q1 q2 q3 (hF.trans u))
set_option maxRecDepth 100000 in
set_option maxHeartbeats 4000000 in
theorem qX_close_36 {n : Nat} {X : Prop} {Q : z_Mem → Prop} {t1 : Int32} {o_t0 : Option Nat} {M : z_Mem} {r : q_R} (ho_t0 : o_t0 = some (n + 40)) (S : y_S n M) (R : q_rep n M r) (H : P_X12_close_36 (n + 40) Q o_t0 t1 M) (K : ∀ M1 r1, Q M1 → y_S n M1 → q_rep n M1 r1 → qF_close_36 t1 r = r1 → X) : X := by
  subst ho_t0
  have hF := qE_close_36 t1 r
  unfold P_X12_close_36 at H
  replace H := z_nne rfl H
  refine qX_puts S R H (fun M_1 r_M_1 H S_M_1 R_M_1 u => ?_)
  replace hF := hF.trans (q_ste u.symm)
  obtain ⟨M_3, e_M_3, H⟩ := q_all H
  have S_M_3 : y_S n M_3 := by rw [e_M_3]; exact S_sfi S_M_1
  have R_M_3 := rep_sfi R_M_1 e_M_3
  obtain ⟨r_M_3, h_M_3⟩ := q_gen R_M_3
  replace hF := hF.trans (q_ste h_M_3.2)
  replace R_M_3 := h_M_3.1
  try simp only [qf_1536 R_M_3] at H
  obtain ⟨M_5, e_M_5, H⟩ := q_all H
  have S_M_5 : y_S n M_5 := by rw [e_M_5]; exact S_sfi S_M_3
  have R_M_5 := rep_sfi R_M_3 e_M_5
  obtain ⟨r_M_5, h_M_5⟩ := q_gen R_M_5
  replace hF := hF.trans (q_ste h_M_5.2)
  replace R_M_5 := h_M_5.1
  exact K _ _ H S_M_5 R_M_5 hF
set_option maxRecDepth 100000 in
set_option maxHeartbeats 4000000 in
theorem qX_close_14 {n : Nat} {X : Prop} {Q : z_Mem → Prop} {t1 : Int32} {o_t0 : Option Nat} {M : z_Mem} {r : q_R} (ho_t0 : o_t0 = some (n + 40)) (S : y_S n M) (R : q_rep n M r) (H : P_X12_close_14 (n + 40) Q o_t0 t1 M) (K : ∀ M1 r1, Q M1 → y_S n M1 → q_rep n M1 r1 → qF_close_14 t1 r = r1 → X) : X := by
  subst ho_t0
  have hF := qE_close_14 t1 r
  unfold P_X12_close_14 at H
  replace H := z_nne rfl H
  refine qX_goes S R H (fun x_6 M_6 r_M_6 H S_M_6 R_M_6 u => ?_)
  replace hF := hF.trans (q_ste2 u)
  rcases q_em H with ⟨c1, H⟩ | ⟨c1, H⟩
  · skip
    replace hF := hF.trans (if_pos c1)
    exact K _ _ H S_M_6 R_M_6 hF
  · skip
    replace hF := hF.trans (if_neg c1)
    try simp only [qf_1583 R_M_6] at H
    rcases q_em H with ⟨c2, H⟩ | ⟨c2, H⟩
    · skip
      replace hF := hF.trans (if_pos c2)
      exact qX_close_36 rfl S_M_6 R_M_6 H (fun M1 r1 q1 q2 q3 u => K M1 r1 q1 q2 q3 (hF.trans u))
    · skip
      replace hF := hF.trans (if_neg c2)
      exact qX_close_36 rfl S_M_6 R_M_6 H (fun M1 r1 q1 q2 q3 u => K M1 r1 q1 q2 q3 (hF.trans u))
set_option maxRecDepth 100000 in
set_option maxHeartbeats 4000000 in
theorem qX_close {n : Nat} {X : Prop} {Q : z_Mem → Prop} {M : z_Mem} {r : q_R} (S : y_S n M) (R : q_rep n M r) (H : P_X12_close (n + 40) M Q) (K : ∀ M1 r1, Q M1 → y_S n M1 → q_rep n M1 r1 → qF_close r = r1 → X) : X := by
  have hF := qE_close r
  unfold P_X12_close at H
  try simp only [qf_1577 R] at H
  rcases q_em H with ⟨c1, H⟩ | ⟨c1, H⟩
  · skip
    replace hF := hF.trans (if_pos c1)
    exact qX_close_14 rfl S R H (fun M1 r1 q1 q2 q3 u => K M1 r1 q1 q2 q3 (hF.trans u))
  · skip
    replace hF := hF.trans (if_neg c1)
    exact qX_close_14 rfl S R H (fun M1 r1 q1 q2 q3 u => K M1 r1 q1 q2 q3 (hF.trans u))
set_option maxRecDepth 100000 in
set_option maxHeartbeats 4000000 in
theorem qX_passes_43 {n : Nat} {X : Prop} {Q : z_Mem → Prop} {QJ12 : Int32 → z_Mem → Prop} {x1 : Int32} {M : z_Mem} {r : q_R} (S : y_S n M) (R : q_rep n M r) (H : P_X12_passes_43 (n + 40) Q QJ12 x1 M) (K : ∀ M1 r1, Q M1 → y_S n M1 → q_rep n M1 r1 → qF_passes_43 x1 r = (.inr r1) → X) (KJ12 : ∀ v0 M1 r1, QJ12 v0 M1 → y_S n M1 → q_rep n M1 r1 → qF_passes_43 x1 r = (.inl (v0, r1)) → X) : X := by
  have hF := qE_passes_43 x1 r
  unfold P_X12_passes_43 at H
  obtain ⟨x_1, e_x_1, H⟩ := q_all H
  replace hF := hF.trans (q_ste e_x_1)
  exact KJ12 _ _ _ H S R hF
set_option maxRecDepth 100000 in
set_option maxHeartbeats 4000000 in
theorem qX_passes_79 {n : Nat} {X : Prop} {Q : z_Mem → Prop} {QJ56 : Int32 → Int32 → z_Mem → Prop} {x1 : Int32} {x2 : Int32} {M : z_Mem} {r : q_R} (S : y_S n M) (R : q_rep n M r) (H : P_X12_passes_79 (n + 40) Q QJ56 x1 x2 M) (K : ∀ M1 r1, Q M1 → y_S n M1 → q_rep n M1 r1 → qF_passes_79 x1 x2 r = (.inr r1) → X) (KJ56 : ∀ v0 v1 M1 r1, QJ56 v0 v1 M1 → y_S n M1 → q_rep n M1 r1 → qF_passes_79 x1 x2 r = (.inl (v0, v1, r1)) → X) : X := by
  have hF := qE_passes_79 x1 x2 r
  unfold P_X12_passes_79 at H
  obtain ⟨x_2, e_x_2, H⟩ := q_all H
  replace hF := hF.trans (q_ste e_x_2)
  exact KJ56 _ _ _ _ H S R hF
set_option maxRecDepth 100000 in
set_option maxHeartbeats 4000000 in
theorem qX_passes_235 {n : Nat} {X : Prop} {Q : z_Mem → Prop} {o_t0 : Option Nat} {M : z_Mem} {r : q_R} (ho_t0 : o_t0 = some (n + 40)) (S : y_S n M) (R : q_rep n M r) (H : P_X12_passes_235 (n + 40) Q o_t0 M) (K : ∀ M1 r1, Q M1 → y_S n M1 → q_rep n M1 r1 → qF_passes_235 r = r1 → X) : X := by
  subst ho_t0
  have hF := qE_passes_235 r
  unfold P_X12_passes_235 at H
  replace H := z_nne rfl H
  try simp only [qf_1577 R] at H
  obtain ⟨M_5, e_M_5, H⟩ := q_all H
  have S_M_5 : y_S n M_5 := by rw [e_M_5]; exact S_sfi S
  have R_M_5 := rep_sfi R e_M_5
  obtain ⟨r_M_5, h_M_5⟩ := q_gen R_M_5
  replace hF := hF.trans (q_ste h_M_5.2)
  replace R_M_5 := h_M_5.1
  refine qX_sendsAll S_M_5 R_M_5 H (fun M_6 r_M_6 H S_M_6 R_M_6 u => ?_)
  replace hF := hF.trans (q_ste u.symm)
  refine qX_leaves S_M_6 R_M_6 H (fun M_7 r_M_7 H S_M_7 R_M_7 u => ?_)
  replace hF := hF.trans (q_ste u.symm)
  refine qX_leaves S_M_7 R_M_7 H (fun M_8 r_M_8 H S_M_8 R_M_8 u => ?_)
  replace hF := hF.trans (q_ste u.symm)
  exact K _ _ H S_M_8 R_M_8 hF
set_option maxRecDepth 100000 in
set_option maxHeartbeats 4000000 in
theorem qX_passes_208 {n : Nat} {X : Prop} {Q : z_Mem → Prop} {M : z_Mem} {r : q_R} (S : y_S n M) (R : q_rep n M r) (H : P_X12_passes_208 (n + 40) Q M) (K : ∀ M1 r1, Q M1 → y_S n M1 → q_rep n M1 r1 → qF_passes_208 r = r1 → X) : X := by
  have hF := qE_passes_208 r
  unfold P_X12_passes_208 at H
  try simp only [qf_1577 R] at H
  rcases q_em H with ⟨c1, H⟩ | ⟨c1, H⟩
  · skip
    replace hF := hF.trans (if_pos c1)
    try simp only [qf_1536 R, qf_1582 R] at H
    rcases q_em H with ⟨c2, H⟩ | ⟨c2, H⟩
    · skip
      replace hF := hF.trans (if_pos c2)
      exact qX_passes_235 rfl S R H (fun M1 r1 q1 q2 q3 u => K M1 r1 q1 q2 q3 (hF.trans u))
    · skip
      replace hF := hF.trans (if_neg c2)
      obtain ⟨M_14, e_M_14, H⟩ := q_all H
      have S_M_14 : y_S n M_14 := by rw [e_M_14]; exact S_sfi S
      have R_M_14 := rep_sfi R e_M_14
      obtain ⟨r_M_14, h_M_14⟩ := q_gen R_M_14
      replace hF := hF.trans (q_ste h_M_14.2)
      replace R_M_14 := h_M_14.1
      refine qX_sendsAll S_M_14 R_M_14 H (fun M_15 r_M_15 H S_M_15 R_M_15 u => ?_)
      replace hF := hF.trans (q_ste u.symm)
      refine qX_leaves S_M_15 R_M_15 H (fun M_16 r_M_16 H S_M_16 R_M_16 u => ?_)
      replace hF := hF.trans (q_ste u.symm)
      refine qX_leaves S_M_16 R_M_16 H (fun M_17 r_M_17 H S_M_17 R_M_17 u => ?_)
      replace hF := hF.trans (q_ste u.symm)
      exact K _ _ H S_M_17 R_M_17 hF
  · skip
    replace hF := hF.trans (if_neg c1)
    exact qX_passes_235 rfl S R H (fun M1 r1 q1 q2 q3 u => K M1 r1 q1 q2 q3 (hF.trans u))
set_option maxRecDepth 100000 in
set_option maxHeartbeats 4000000 in
theorem qX_passes_170 {n : Nat} {X : Prop} {Q : z_Mem → Prop} {M : z_Mem} {r : q_R} (S : y_S n M) (R : q_rep n M r) (H : P_X12_passes_170 (n + 40) Q M) (K : ∀ M1 r1, Q M1 → y_S n M1 → q_rep n M1 r1 → qF_passes_170 r = r1 → X) : X := by
  have hF := qE_passes_170 r
  unfold P_X12_passes_170 at H
  try simp only [qf_1577 R] at H
  rcases q_em H with ⟨c1, H⟩ | ⟨c1, H⟩
  · skip
    replace hF := hF.trans (if_pos c1)
    try simp only [qf_1536 R, qf_1580 R, qf_1581 R] at H
    rcases q_em H with ⟨c2, H⟩ | ⟨c2, H⟩
    · skip
      replace hF := hF.trans (if_pos c2)
      exact qX_passes_208 S R H (fun M1 r1 q1 q2 q3 u => K M1 r1 q1 q2 q3 (hF.trans u))
    · skip
      replace hF := hF.trans (if_neg c2)
      try simp only [qf_1581 R] at H
      obtain ⟨M_25, e_M_25, H⟩ := q_all H
      have S_M_25 : y_S n M_25 := by rw [e_M_25]; exact S_sfi S
      have R_M_25 := rep_sfi R e_M_25
      obtain ⟨r_M_25, h_M_25⟩ := q_gen R_M_25
      replace hF := hF.trans (q_ste h_M_25.2)
      replace R_M_25 := h_M_25.1
      refine qX_saysHello S_M_25 R_M_25 H (fun M_26 r_M_26 H S_M_26 R_M_26 u => ?_)
      replace hF := hF.trans (q_ste u.symm)
      exact qX_passes_208 S_M_26 R_M_26 H (fun M1 r1 q1 q2 q3 u => K M1 r1 q1 q2 q3 (hF.trans u))
  · skip
    replace hF := hF.trans (if_neg c1)
    exact qX_passes_208 S R H (fun M1 r1 q1 q2 q3 u => K M1 r1 q1 q2 q3 (hF.trans u))
set_option maxRecDepth 100000 in
set_option maxHeartbeats 4000000 in
theorem qX_passes_150 {n : Nat} {X : Prop} {Q : z_Mem → Prop} {M : z_Mem} {r : q_R} (S : y_S n M) (R : q_rep n M r) (H : P_X12_passes_150 (n + 40) Q M) (K : ∀ M1 r1, Q M1 → y_S n M1 → q_rep n M1 r1 → qF_passes_150 r = r1 → X) : X := by
  have hF := qE_passes_150 r
  unfold P_X12_passes_150 at H
  refine qX_losesByTime S R H (fun M_27 r_M_27 H S_M_27 R_M_27 u => ?_)
  replace hF := hF.trans (q_ste u.symm)
  refine qX_losesByTime S_M_27 R_M_27 H (fun M_28 r_M_28 H S_M_28 R_M_28 u => ?_)
  replace hF := hF.trans (q_ste u.symm)
  refine qX_probesOn S_M_28 R_M_28 H (fun M_29 r_M_29 H S_M_29 R_M_29 u => ?_)
  replace hF := hF.trans (q_ste u.symm)
  refine qX_probesOn S_M_29 R_M_29 H (fun M_30 r_M_30 H S_M_30 R_M_30 u => ?_)
  replace hF := hF.trans (q_ste u.symm)
  exact qX_passes_170 S_M_30 R_M_30 H (fun M1 r1 q1 q2 q3 u => K M1 r1 q1 q2 q3 (hF.trans u))
set_option maxRecDepth 100000 in
set_option maxHeartbeats 4000000 in
theorem qX_passes_134 {n : Nat} {X : Prop} {Q : z_Mem → Prop} {M : z_Mem} {r : q_R} (S : y_S n M) (R : q_rep n M r) (H : P_X12_passes_134 (n + 40) Q M) (K : ∀ M1 r1, Q M1 → y_S n M1 → q_rep n M1 r1 → qF_passes_134 r = r1 → X) : X := by
  have hF := qE_passes_134 r
  unfold P_X12_passes_134 at H
  try simp only [qf_1577 R] at H
  rcases q_em H with ⟨c1, H⟩ | ⟨c1, H⟩
  · skip
    replace hF := hF.trans (if_pos c1)
    exact qX_passes_150 S R H (fun M1 r1 q1 q2 q3 u => K M1 r1 q1 q2 q3 (hF.trans u))
  · skip
    replace hF := hF.trans (if_neg c1)
    try simp only [qf_1577 R] at H
    rcases q_em H with ⟨c2, H⟩ | ⟨c2, H⟩
    · skip
      replace hF := hF.trans (if_pos c2)
      exact qX_passes_150 S R H (fun M1 r1 q1 q2 q3 u => K M1 r1 q1 q2 q3 (hF.trans u))
    · skip
      replace hF := hF.trans (if_neg c2)
      exact qX_passes_170 S R H (fun M1 r1 q1 q2 q3 u => K M1 r1 q1 q2 q3 (hF.trans u))
set_option maxRecDepth 100000 in
set_option maxHeartbeats 4000000 in
theorem qX_passes_130 {n : Nat} {X : Prop} {Q : z_Mem → Prop} {M : z_Mem} {r : q_R} (S : y_S n M) (R : q_rep n M r) (H : P_X12_passes_130 (n + 40) Q M) (K : ∀ M1 r1, Q M1 → y_S n M1 → q_rep n M1 r1 → qF_passes_130 r = r1 → X) : X := by
  have hF := qE_passes_130 r
  unfold P_X12_passes_130 at H
  refine qX_acknowledges S R H (fun M_35 r_M_35 H S_M_35 R_M_35 u => ?_)
  replace hF := hF.trans (q_ste u.symm)
  exact qX_passes_134 S_M_35 R_M_35 H (fun M1 r1 q1 q2 q3 u => K M1 r1 q1 q2 q3 (hF.trans u))
set_option maxRecDepth 100000 in
set_option maxHeartbeats 4000000 in
theorem qX_passes_120 {n : Nat} {X : Prop} {Q : z_Mem → Prop} {M : z_Mem} {r : q_R} (S : y_S n M) (R : q_rep n M r) (H : P_X12_passes_120 (n + 40) Q M) (K : ∀ M1 r1, Q M1 → y_S n M1 → q_rep n M1 r1 → qF_passes_120 r = r1 → X) : X := by
  have hF := qE_passes_120 r
  unfold P_X12_passes_120 at H
  try simp only [qf_1536 R] at H
  rcases q_em H with ⟨c1, H⟩ | ⟨c1, H⟩
  · skip
    replace hF := hF.trans (if_pos c1)
    exact qX_passes_130 S R H (fun M1 r1 q1 q2 q3 u => K M1 r1 q1 q2 q3 (hF.trans u))
  · skip
    replace hF := hF.trans (if_neg c1)
    exact qX_passes_134 S R H (fun M1 r1 q1 q2 q3 u => K M1 r1 q1 q2 q3 (hF.trans u))
set_option maxRecDepth 100000 in
set_option maxHeartbeats 4000000 in
theorem qX_passes_56 {n : Nat} {X : Prop} {Q : z_Mem → Prop} : ∀ (m : Nat) {x1 : Int32} {x2 : Int32} {M : z_Mem} {r : q_R} (S : y_S n M) (R : q_rep n M r) (H : P_X12_passes_56 (n + 40) Q m x1 x2 M) (K : ∀ M1 r1, Q M1 → y_S n M1 → q_rep n M1 r1 → qF_passes_56 x1 x2 r = r1 → X), X := by
  intro m
  induction m with
  | zero => intros; rename_i H _; exact False.elim H
  | succ m ih =>
    intro x1 x2 M r S R H K
    have hF := qE_passes_56 x1 x2 r
    unfold P_X12_passes_56 at H
    rcases q_em H with ⟨c1, H⟩ | ⟨c1, H⟩
    · skip
      replace hF := hF.trans (if_pos c1)
      try simp only [qf_1562 R] at H
      rcases q_em H with ⟨c2, H⟩ | ⟨c2, H⟩
      · skip
        replace hF := hF.trans (if_pos c2)
        try simp only [qf_1575 R] at H
        rcases q_em H with ⟨c3, H⟩ | ⟨c3, H⟩
        · skip
          replace hF := hF.trans (if_pos c3)
          exact qX_passes_134 S R H (fun M1 r1 q1 q2 q3 u => K M1 r1 q1 q2 q3 (qUr_passes_56 (hF.trans (congrArg Sum.inr u))))
        · skip
          replace hF := hF.trans (if_neg c3)
          try simp only [qf_1574 R] at H
          rcases q_em H with ⟨c4, H⟩ | ⟨c4, H⟩
          · skip
            replace hF := hF.trans (if_pos c4)
            exact qX_passes_120 S R H (fun M1 r1 q1 q2 q3 u => K M1 r1 q1 q2 q3 (qUr_passes_56 (hF.trans (congrArg Sum.inr u))))
          · skip
            replace hF := hF.trans (if_neg c4)
            try simp only [qf_1536 R, qf_1574 R] at H
            rcases q_em H with ⟨c5, H⟩ | ⟨c5, H⟩
            · skip
              replace hF := hF.trans (if_pos c5)
              exact qX_passes_130 S R H (fun M1 r1 q1 q2 q3 u => K M1 r1 q1 q2 q3 (qUr_passes_56 (hF.trans (congrArg Sum.inr u))))
            · skip
              replace hF := hF.trans (if_neg c5)
              exact qX_passes_120 S R H (fun M1 r1 q1 q2 q3 u => K M1 r1 q1 q2 q3 (qUr_passes_56 (hF.trans (congrArg Sum.inr u))))
      · skip
        replace hF := hF.trans (if_neg c2)
        exact qX_passes_134 S R H (fun M1 r1 q1 q2 q3 u => K M1 r1 q1 q2 q3 (qUr_passes_56 (hF.trans (congrArg Sum.inr u))))
    · skip
      replace hF := hF.trans (if_neg c1)
      replace H := z_nne (s_1558_40 S) H
      replace H := H.2
      try simp only [qa_60 R, qf_1536 R] at H
      rcases q_em H with ⟨c6, H⟩ | ⟨c6, H⟩
      · skip
        replace hF := hF.trans (if_pos c6)
        refine qX_arrivesAtClient S R H (fun M_53 r_M_53 H S_M_53 R_M_53 u => ?_)
        replace hF := hF.trans (q_ste u.symm)
        exact qX_passes_79 S_M_53 R_M_53 H (fun M1 r1 q1 q2 q3 u => K M1 r1 q1 q2 q3 (qUr_passes_56 (hF.trans u))) (fun v0 v1 M1 r1 q1 q2 q3 u => ih q2 q3 q1 (fun M1 r1 q1 q2 q3 u2 => K M1 r1 q1 q2 q3 ((qUl_passes_56 (hF.trans u)).trans u2))) 
      · skip
        replace hF := hF.trans (if_neg c6)
        exact qX_passes_79 S R H (fun M1 r1 q1 q2 q3 u => K M1 r1 q1 q2 q3 (qUr_passes_56 (hF.trans u))) (fun v0 v1 M1 r1 q1 q2 q3 u => ih q2 q3 q1 (fun M1 r1 q1 q2 q3 u2 => K M1 r1 q1 q2 q3 ((qUl_passes_56 (hF.trans u)).trans u2))) 
set_option maxRecDepth 100000 in
set_option maxHeartbeats 4000000 in
theorem qX_passes_12 {n : Nat} {X : Prop} {Q : z_Mem → Prop} : ∀ (m : Nat) {x1 : Int32} {M : z_Mem} {r : q_R} (S : y_S n M) (R : q_rep n M r) (H : P_X12_passes_12 (n + 40) Q m x1 M) (K : ∀ M1 r1, Q M1 → y_S n M1 → q_rep n M1 r1 → qF_passes_12 x1 r = r1 → X), X := by
  intro m
  induction m with
  | zero => intros; rename_i H _; exact False.elim H
  | succ m ih =>
    intro x1 M r S R H K
    have hF := qE_passes_12 x1 r
    unfold P_X12_passes_12 at H
    try simp only [qf_1554 R] at H
    rcases q_em H with ⟨c1, H⟩ | ⟨c1, H⟩
    · skip
      replace hF := hF.trans (if_pos c1)
      try simp only [qf_1559 R] at H
      obtain ⟨x_57, e_x_57, H⟩ := q_all H
      replace hF := hF.trans (q_ste e_x_57)
      obtain ⟨m, H⟩ := H
      exact qX_passes_56 m S R H (fun M1 r1 q1 q2 q3 u => K M1 r1 q1 q2 q3 (qUr_passes_12 (hF.trans (congrArg Sum.inr u))))
    · skip
      replace hF := hF.trans (if_neg c1)
      replace H := z_nne (s_1553_40 S) H
      replace H := H.2
      try simp only [qa_56 R, qf_1536 R] at H
      rcases q_em H with ⟨c2, H⟩ | ⟨c2, H⟩
      · skip
        replace hF := hF.trans (if_pos c2)
        replace H := z_nne (s_1552_40 S) H
        replace H := H.2
        try simp only [qa_55 R] at H
        refine qX_arrivesAtServer S R H (fun M_67 r_M_67 H S_M_67 R_M_67 u => ?_)
        replace hF := hF.trans (q_ste u.symm)
        exact qX_passes_43 S_M_67 R_M_67 H (fun M1 r1 q1 q2 q3 u => K M1 r1 q1 q2 q3 (qUr_passes_12 (hF.trans u))) (fun v0 M1 r1 q1 q2 q3 u => ih q2 q3 q1 (fun M1 r1 q1 q2 q3 u2 => K M1 r1 q1 q2 q3 ((qUl_passes_12 (hF.trans u)).trans u2))) 
      · skip
        replace hF := hF.trans (if_neg c2)
        exact qX_passes_43 S R H (fun M1 r1 q1 q2 q3 u => K M1 r1 q1 q2 q3 (qUr_passes_12 (hF.trans u))) (fun v0 M1 r1 q1 q2 q3 u => ih q2 q3 q1 (fun M1 r1 q1 q2 q3 u2 => K M1 r1 q1 q2 q3 ((qUl_passes_12 (hF.trans u)).trans u2))) 
set_option maxRecDepth 100000 in
set_option maxHeartbeats 4000000 in
theorem qX_passes {n : Nat} {X : Prop} {Q : z_Mem → Prop} {M : z_Mem} {r : q_R} (S : y_S n M) (R : q_rep n M r) (H : P_X12_passes (n + 40) M Q) (K : ∀ M1 r1, Q M1 → y_S n M1 → q_rep n M1 r1 → qF_passes r = r1 → X) : X := by
  have hF := qE_passes r
  unfold P_X12_passes at H
  try simp only [qf_1536 R] at H
  obtain ⟨M_69, e_M_69, H⟩ := q_all H
  have S_M_69 : y_S n M_69 := by rw [e_M_69]; exact S_sfi S
  have R_M_69 := rep_sfi R e_M_69
  obtain ⟨r_M_69, h_M_69⟩ := q_gen R_M_69
  replace hF := hF.trans (q_ste h_M_69.2)
  replace R_M_69 := h_M_69.1
  obtain ⟨m, H⟩ := H
  exact qX_passes_12 m S_M_69 R_M_69 H (fun M1 r1 q1 q2 q3 u => K M1 r1 q1 q2 q3 (hF.trans u))
set_option maxRecDepth 100000 in
set_option maxHeartbeats 4000000 in
theorem qX_tick_36 {n : Nat} {X : Prop} {Q : Int32 → z_Mem → Prop} : ∀ (m : Nat) {x1 : Int32} {x2 : Int32} {M : z_Mem} {r : q_R} (S : y_S n M) (R : q_rep n M r) (H : P_X12_tick_36 (n + 40) Q m x1 x2 M) (K : ∀ x M1 r1, Q x M1 → y_S n M1 → q_rep n M1 r1 → qF_tick_36 x1 x2 r = (x, r1) → X), X := by
  intro m
  induction m with
  | zero => intros; rename_i H _; exact False.elim H
  | succ m ih =>
    intro x1 x2 M r S R H K
    have hF := qE_tick_36 x1 x2 r
    unfold P_X12_tick_36 at H
    rcases q_em H with ⟨c1, H⟩ | ⟨c1, H⟩
    · skip
      replace hF := hF.trans (if_pos c1)
      try simp only [qf_1536 R] at H
      exact K _ _ _ H S R (qUr_tick_36 hF)
    · skip
      replace hF := hF.trans (if_neg c1)
      refine qX_passes S R H (fun M_3 r_M_3 H S_M_3 R_M_3 u => ?_)
      replace hF := hF.trans (q_ste u.symm)
      obtain ⟨x_4, e_x_4, H⟩ := q_all H
      replace hF := hF.trans (q_ste e_x_4)
      replace hF := qUl_tick_36 hF
      exact ih S_M_3 R_M_3 H (fun x M1 r1 q1 q2 q3 u => K x M1 r1 q1 q2 q3 (hF.trans u))
set_option maxRecDepth 100000 in
set_option maxHeartbeats 4000000 in
theorem qX_tick_25 {n : Nat} {X : Prop} {Q : Int32 → z_Mem → Prop} {x1 : Int32} {t1 : Int32} {t2 : Int32} {o_t0 : Option Nat} {M : z_Mem} {r : q_R} (ho_t0 : o_t0 = some (n + 40)) (S : y_S n M) (R : q_rep n M r) (H : P_X12_tick_25 (n + 40) Q x1 o_t0 t1 t2 M) (K : ∀ x M1 r1, Q x M1 → y_S n M1 → q_rep n M1 r1 → qF_tick_25 x1 t1 t2 r = (x, r1) → X) : X := by
  subst ho_t0
  have hF := qE_tick_25 x1 t1 t2 r
  unfold P_X12_tick_25 at H
  replace H := z_nne rfl H
  refine qX_goes S R H (fun x_5 M_5 r_M_5 H S_M_5 R_M_5 u => ?_)
  replace hF := hF.trans (q_ste2 u)
  rcases q_em H with ⟨c1, H⟩ | ⟨c1, H⟩
  · skip
    replace hF := hF.trans (if_pos c1)
    exact K _ _ _ H S_M_5 R_M_5 hF
  · skip
    replace hF := hF.trans (if_neg c1)
    obtain ⟨m, H⟩ := H
    exact qX_tick_36 m S_M_5 R_M_5 H (fun x M1 r1 q1 q2 q3 u => K x M1 r1 q1 q2 q3 (hF.trans u))
set_option maxRecDepth 100000 in
set_option maxHeartbeats 4000000 in
theorem qX_tick {n : Nat} {X : Prop} {Q : Int32 → z_Mem → Prop} {p1 : Int32} {M : z_Mem} {r : q_R} (S : y_S n M) (R : q_rep n M r) (H : P_X12_tick (n + 40) p1 M Q) (K : ∀ x M1 r1, Q x M1 → y_S n M1 → q_rep n M1 r1 → qF_tick p1 r = (x, r1) → X) : X := by
  have hF := qE_tick p1 r
  unfold P_X12_tick at H
  refine qX_in S R H (fun x_9 M_9 r_M_9 H S_M_9 R_M_9 u => ?_)
  replace hF := hF.trans (q_ste2 u)
  try simp only [qf_1536 R_M_9] at H
  rcases q_em H with ⟨c1, H⟩ | ⟨c1, H⟩
  · skip
    replace hF := hF.trans (if_pos c1)
    exact qX_tick_25 rfl S_M_9 R_M_9 H (fun x M1 r1 q1 q2 q3 u => K x M1 r1 q1 q2 q3 (hF.trans u))
  · skip
    replace hF := hF.trans (if_neg c1)
    exact qX_tick_25 rfl S_M_9 R_M_9 H (fun x M1 r1 q1 q2 q3 u => K x M1 r1 q1 q2 q3 (hF.trans u))
