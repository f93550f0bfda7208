/-! ===== THE REFERENCE: what comes out, 2 ===== -/
set_option maxRecDepth 100000 in
set_option maxHeartbeats 4000000 in
theorem qX_takes_99 {n : Nat} {X : Prop} {Q : z_Mem → Prop} {x1 : Int32} {M : z_Mem} {r : q_R} (S : y_S n M) (R : q_rep n M r) (H : P_X12_takes_99 (n + 40) Q x1 M) (K : ∀ M1 r1, Q M1 → y_S n M1 → q_rep n M1 r1 → qF_takes_99 x1 r = r1 → X) : X := by
  have hF := qE_takes_99 x1 r
  unfold P_X12_takes_99 at H
  replace H := z_nne (s_1599_40 S) H
  replace H := H.2
  obtain ⟨M_41, e_M_41, H⟩ := q_all H
  have S_M_41 : y_S n M_41 := by rw [e_M_41]; exact S_sai S
  have R_M_41 := rep_sai R (by decide) (by decide) e_M_41
  obtain ⟨r_M_41, h_M_41⟩ := q_gen R_M_41
  replace hF := hF.trans (q_ste h_M_41.2)
  replace R_M_41 := h_M_41.1
  replace H := z_nne (s_1569_40 S_M_41) H
  replace H := H.2
  obtain ⟨M_45, e_M_45, H⟩ := q_all H
  have S_M_45 : y_S n M_45 := by rw [e_M_45]; exact S_sai S_M_41
  have R_M_45 := rep_sai R_M_41 (by decide) (by decide) e_M_45
  obtain ⟨r_M_45, h_M_45⟩ := q_gen R_M_45
  replace hF := hF.trans (q_ste h_M_45.2)
  replace R_M_45 := h_M_45.1
  replace H := z_nne (s_1603_40 S_M_45) H
  replace H := H.2
  try simp only [qa_81 R_M_45] at H
  rcases q_em H with ⟨c1, H⟩ | ⟨c1, H⟩
  · skip
    replace hF := hF.trans (if_pos c1)
    try simp only [qf_1576 R_M_45] at H
    exact qX_takes_132 rfl S_M_45 R_M_45 H (fun M1 r1 q1 q2 q3 u => K M1 r1 q1 q2 q3 (hF.trans u))
  · skip
    replace hF := hF.trans (if_neg c1)
    try simp only [qf_1576 R_M_45] at H
    exact qX_takes_132 rfl S_M_45 R_M_45 H (fun M1 r1 q1 q2 q3 u => K M1 r1 q1 q2 q3 (hF.trans u))
set_option maxRecDepth 100000 in
set_option maxHeartbeats 4000000 in
theorem qX_takes_43 {n : Nat} {X : Prop} {Q : z_Mem → Prop} {x1 : Int32} {M : z_Mem} {r : q_R} (S : y_S n M) (R : q_rep n M r) (H : P_X12_takes_43 (n + 40) Q x1 M) (K : ∀ M1 r1, Q M1 → y_S n M1 → q_rep n M1 r1 → qF_takes_43 x1 r = r1 → X) : X := by
  have hF := qE_takes_43 x1 r
  unfold P_X12_takes_43 at H
  replace H := z_nne (s_1600_40 S) H
  replace H := H.2
  try simp only [qa_78 R, qf_1566 R] at H
  rcases q_em H with ⟨c1, H⟩ | ⟨c1, H⟩
  · skip
    replace hF := hF.trans (if_pos c1)
    replace H := z_nne (s_1600_40 S) H
    replace H := H.2
    try simp only [qa_78 R] at H
    refine qX_isByKey S R H (fun x_59 M_59 r_M_59 H S_M_59 R_M_59 u => ?_)
    replace hF := hF.trans (q_ste2 u)
    rcases q_em H with ⟨c2, H⟩ | ⟨c2, H⟩
    · skip
      replace hF := hF.trans (if_pos c2)
      exact K _ _ H S_M_59 R_M_59 hF
    · skip
      replace hF := hF.trans (if_neg c2)
      exact qX_takes_99 S_M_59 R_M_59 H (fun M1 r1 q1 q2 q3 u => K M1 r1 q1 q2 q3 (hF.trans u))
  · skip
    replace hF := hF.trans (if_neg c1)
    try simp only [qf_1566 R] at H
    obtain ⟨M_62, e_M_62, H⟩ := q_all H
    have S_M_62 : y_S n M_62 := by rw [e_M_62]; exact S_sfi S
    have R_M_62 := rep_sfi R e_M_62
    obtain ⟨r_M_62, h_M_62⟩ := q_gen R_M_62
    replace hF := hF.trans (q_ste h_M_62.2)
    replace R_M_62 := h_M_62.1
    replace H := z_nne (s_1600_40 S_M_62) H
    replace H := H.2
    try simp only [qa_78 R_M_62] at H
    obtain ⟨M_66, e_M_66, H⟩ := q_all H
    have S_M_66 : y_S n M_66 := by rw [e_M_66]; exact S_sfi S_M_62
    have R_M_66 := rep_sfi R_M_62 e_M_66
    obtain ⟨r_M_66, h_M_66⟩ := q_gen R_M_66
    replace hF := hF.trans (q_ste h_M_66.2)
    replace R_M_66 := h_M_66.1
    try simp only [qf_1536 R_M_66] at H
    obtain ⟨M_68, e_M_68, H⟩ := q_all H
    have S_M_68 : y_S n M_68 := by rw [e_M_68]; exact S_sfi S_M_66
    have R_M_68 := rep_sfi R_M_66 e_M_68
    obtain ⟨r_M_68, h_M_68⟩ := q_gen R_M_68
    replace hF := hF.trans (q_ste h_M_68.2)
    replace R_M_68 := h_M_68.1
    exact qX_takes_99 S_M_68 R_M_68 H (fun M1 r1 q1 q2 q3 u => K M1 r1 q1 q2 q3 (hF.trans u))
set_option maxRecDepth 100000 in
set_option maxHeartbeats 4000000 in
theorem qX_takes {n : Nat} {X : Prop} {Q : z_Mem → Prop} {p1 : Int32} {M : z_Mem} {r : q_R} (S : y_S n M) (R : q_rep n M r) (H : P_X12_takes (n + 40) p1 M Q) (K : ∀ M1 r1, Q M1 → y_S n M1 → q_rep n M1 r1 → qF_takes p1 r = r1 → X) : X := by
  have hF := qE_takes p1 r
  unfold P_X12_takes at H
  replace H := z_nne (s_1599_40 S) H
  replace H := H.2
  obtain ⟨M_72, e_M_72, H⟩ := q_all H
  have S_M_72 : y_S n M_72 := by rw [e_M_72]; exact S_sai S
  have R_M_72 := rep_sai R (by decide) (by decide) e_M_72
  obtain ⟨r_M_72, h_M_72⟩ := q_gen R_M_72
  replace hF := hF.trans (q_ste h_M_72.2)
  replace R_M_72 := h_M_72.1
  try simp only [qf_1562 R_M_72] at H
  rcases q_em H with ⟨c1, H⟩ | ⟨c1, H⟩
  · skip
    replace hF := hF.trans (if_pos c1)
    replace H := z_nne (s_1593_40 S_M_72) H
    replace H := H.2
    try simp only [qa_71 R_M_72] at H
    obtain ⟨M_78, e_M_78, H⟩ := q_all H
    have S_M_78 : y_S n M_78 := by rw [e_M_78]; exact S_sfi S_M_72
    have R_M_78 := rep_sfi R_M_72 e_M_78
    obtain ⟨r_M_78, h_M_78⟩ := q_gen R_M_78
    replace hF := hF.trans (q_ste h_M_78.2)
    replace R_M_78 := h_M_78.1
    replace H := z_nne (s_1602_40 S_M_78) H
    replace H := H.2
    try simp only [qa_80 R_M_78] at H
    rcases q_em H with ⟨c2, H⟩ | ⟨c2, H⟩
    · skip
      replace hF := hF.trans (if_pos c2)
      exact qX_takes_43 S_M_78 R_M_78 H (fun M1 r1 q1 q2 q3 u => K M1 r1 q1 q2 q3 (hF.trans u))
    · skip
      replace hF := hF.trans (if_neg c2)
      try simp only [qf_1564 R_M_78] at H
      rcases q_em H with ⟨c3, H⟩ | ⟨c3, H⟩
      · skip
        replace hF := hF.trans (if_pos c3)
        exact K _ _ H S_M_78 R_M_78 hF
      · skip
        replace hF := hF.trans (if_neg c3)
        exact qX_takes_43 S_M_78 R_M_78 H (fun M1 r1 q1 q2 q3 u => K M1 r1 q1 q2 q3 (hF.trans u))
  · skip
    replace hF := hF.trans (if_neg c1)
    exact K _ _ H S_M_72 R_M_72 hF
set_option maxRecDepth 100000 in
set_option maxHeartbeats 4000000 in
theorem qX_hears_124 {n : Nat} {X : Prop} {Q : z_Mem → Prop} {x1 : Int32} {M : z_Mem} {r : q_R} (S : y_S n M) (R : q_rep n M r) (H : P_X12_hears_124 (n + 40) Q x1 M) (K : ∀ M1 r1, Q M1 → y_S n M1 → q_rep n M1 r1 → qF_hears_124 x1 r = r1 → X) : X := by
  have hF := qE_hears_124 x1 r
  unfold P_X12_hears_124 at H
  try simp only [qf_1564 R] at H
  rcases q_em H with ⟨c1, H⟩ | ⟨c1, H⟩
  · skip
    replace hF := hF.trans (if_pos c1)
    refine qX_answers S R H (fun M_3 r_M_3 H S_M_3 R_M_3 u => ?_)
    replace hF := hF.trans (q_ste u.symm)
    exact K _ _ H S_M_3 R_M_3 hF
  · skip
    replace hF := hF.trans (if_neg c1)
    refine qX_answers S R H (fun M_4 r_M_4 H S_M_4 R_M_4 u => ?_)
    replace hF := hF.trans (q_ste u.symm)
    exact K _ _ H S_M_4 R_M_4 hF
set_option maxRecDepth 100000 in
set_option maxHeartbeats 4000000 in
theorem qX_hears_106 {n : Nat} {X : Prop} {Q : z_Mem → Prop} {x1 : Int32} {x4 : Int32} {t1 : Int32} {o_t0 : Option Nat} {M : z_Mem} {r : q_R} (ho_t0 : o_t0 = some (n + 40)) (S : y_S n M) (R : q_rep n M r) (H : P_X12_hears_106 (n + 40) Q x1 x4 o_t0 t1 M) (K : ∀ M1 r1, Q M1 → y_S n M1 → q_rep n M1 r1 → qF_hears_106 x1 x4 t1 r = r1 → X) : X := by
  subst ho_t0
  have hF := qE_hears_106 x1 x4 t1 r
  unfold P_X12_hears_106 at H
  replace H := z_nne rfl H
  obtain ⟨M_6, e_M_6, H⟩ := q_all H
  have S_M_6 : y_S n M_6 := by rw [e_M_6]; exact S_sfi S
  have R_M_6 := rep_sfi R e_M_6
  obtain ⟨r_M_6, h_M_6⟩ := q_gen R_M_6
  replace hF := hF.trans (q_ste h_M_6.2)
  replace R_M_6 := h_M_6.1
  try simp only [qf_1564 R_M_6] at H
  rcases q_em H with ⟨c1, H⟩ | ⟨c1, H⟩
  · skip
    replace hF := hF.trans (if_pos c1)
    exact qX_hears_124 S_M_6 R_M_6 H (fun M1 r1 q1 q2 q3 u => K M1 r1 q1 q2 q3 (hF.trans u))
  · skip
    replace hF := hF.trans (if_neg c1)
    replace H := z_nne (s_1565_40 S_M_6) H
    replace H := H.2
    obtain ⟨M_12, e_M_12, H⟩ := q_all H
    have S_M_12 : y_S n M_12 := by rw [e_M_12]; exact S_sai S_M_6
    have R_M_12 := rep_sai R_M_6 (by decide) (by decide) e_M_12
    obtain ⟨r_M_12, h_M_12⟩ := q_gen R_M_12
    replace hF := hF.trans (q_ste h_M_12.2)
    replace R_M_12 := h_M_12.1
    exact qX_hears_124 S_M_12 R_M_12 H (fun M1 r1 q1 q2 q3 u => K M1 r1 q1 q2 q3 (hF.trans u))
set_option maxRecDepth 100000 in
set_option maxHeartbeats 4000000 in
theorem qX_hears_105 {n : Nat} {X : Prop} {Q : z_Mem → Prop} {x1 : Int32} {x4 : Int32} {o_t0 : Option Nat} {M : z_Mem} {r : q_R} (ho_t0 : o_t0 = some (n + 40)) (S : y_S n M) (R : q_rep n M r) (H : P_X12_hears_105 (n + 40) Q x1 x4 o_t0 M) (K : ∀ M1 r1, Q M1 → y_S n M1 → q_rep n M1 r1 → qF_hears_105 x1 x4 r = r1 → X) : X := by
  subst ho_t0
  have hF := qE_hears_105 x1 x4 r
  unfold P_X12_hears_105 at H
  exact qX_hears_106 rfl S R H (fun M1 r1 q1 q2 q3 u => K M1 r1 q1 q2 q3 (hF.trans u))
set_option maxRecDepth 100000 in
set_option maxHeartbeats 4000000 in
theorem qX_hears_80 {n : Nat} {X : Prop} {Q : z_Mem → Prop} {x1 : Int32} {x4 : Int32} {M : z_Mem} {r : q_R} (S : y_S n M) (R : q_rep n M r) (H : P_X12_hears_80 (n + 40) Q x1 x4 M) (K : ∀ M1 r1, Q M1 → y_S n M1 → q_rep n M1 r1 → qF_hears_80 x1 x4 r = r1 → X) : X := by
  have hF := qE_hears_80 x1 x4 r
  unfold P_X12_hears_80 at H
  obtain ⟨M_13, e_M_13, H⟩ := q_all H
  have S_M_13 : y_S n M_13 := by rw [e_M_13]; exact S_sfi S
  have R_M_13 := rep_sfi R e_M_13
  obtain ⟨r_M_13, h_M_13⟩ := q_gen R_M_13
  replace hF := hF.trans (q_ste h_M_13.2)
  replace R_M_13 := h_M_13.1
  rcases q_em H with ⟨c1, H⟩ | ⟨c1, H⟩
  · skip
    replace hF := hF.trans (if_pos c1)
    exact qX_hears_105 rfl S_M_13 R_M_13 H (fun M1 r1 q1 q2 q3 u => K M1 r1 q1 q2 q3 (hF.trans u))
  · skip
    replace hF := hF.trans (if_neg c1)
    replace H := z_nne (s_1565_40 S_M_13) H
    replace H := H.2
    try simp only [qa_62 R_M_13] at H
    rcases q_em H with ⟨c2, H⟩ | ⟨c2, H⟩
    · skip
      replace hF := hF.trans (if_pos c2)
      exact qX_hears_106 rfl S_M_13 R_M_13 H (fun M1 r1 q1 q2 q3 u => K M1 r1 q1 q2 q3 (hF.trans u))
    · skip
      replace hF := hF.trans (if_neg c2)
      exact qX_hears_105 rfl S_M_13 R_M_13 H (fun M1 r1 q1 q2 q3 u => K M1 r1 q1 q2 q3 (hF.trans u))
set_option maxRecDepth 100000 in
set_option maxHeartbeats 4000000 in
theorem qX_hears_12 {n : Nat} {X : Prop} {Q : z_Mem → Prop} {x1 : Int32} {x2 : Int32} {t0 : Int32} {M : z_Mem} {r : q_R} (S : y_S n M) (R : q_rep n M r) (H : P_X12_hears_12 (n + 40) Q x1 x2 t0 M) (K : ∀ M1 r1, Q M1 → y_S n M1 → q_rep n M1 r1 → qF_hears_12 x1 x2 t0 r = r1 → X) : X := by
  have hF := qE_hears_12 x1 x2 t0 r
  unfold P_X12_hears_12 at H
  obtain ⟨x_19, e_x_19, H⟩ := q_all H
  replace hF := hF.trans (q_ste e_x_19)
  try simp only [qf_1562 R] at H
  rcases q_em H with ⟨c1, H⟩ | ⟨c1, H⟩
  · skip
    replace hF := hF.trans (if_pos c1)
    exact K _ _ H S R hF
  · skip
    replace hF := hF.trans (if_neg c1)
    try simp only [qf_1562 R] at H
    rcases q_em H with ⟨c2, H⟩ | ⟨c2, H⟩
    · skip
      replace hF := hF.trans (if_pos c2)
      try simp only [qf_1564 R] at H
      rcases q_em H with ⟨c3, H⟩ | ⟨c3, H⟩
      · skip
        replace hF := hF.trans (if_pos c3)
        refine qX_answers S R H (fun M_30 r_M_30 H S_M_30 R_M_30 u => ?_)
        replace hF := hF.trans (q_ste u.symm)
        exact K _ _ H S_M_30 R_M_30 hF
      · skip
        replace hF := hF.trans (if_neg c3)
        refine qX_answers S R H (fun M_31 r_M_31 H S_M_31 R_M_31 u => ?_)
        replace hF := hF.trans (q_ste u.symm)
        exact K _ _ H S_M_31 R_M_31 hF
    · skip
      replace hF := hF.trans (if_neg c2)
      try simp only [qf_1563 R] at H
      rcases q_em H with ⟨c4, H⟩ | ⟨c4, H⟩
      · skip
        replace hF := hF.trans (if_pos c4)
        exact qX_hears_80 S R H (fun M1 r1 q1 q2 q3 u => K M1 r1 q1 q2 q3 (hF.trans u))
      · skip
        replace hF := hF.trans (if_neg c4)
        rcases q_em H with ⟨c5, H⟩ | ⟨c5, H⟩
        · skip
          replace hF := hF.trans (if_pos c5)
          refine qX_answers S R H (fun M_27 r_M_27 H S_M_27 R_M_27 u => ?_)
          replace hF := hF.trans (q_ste u.symm)
          exact K _ _ H S_M_27 R_M_27 hF
        · skip
          replace hF := hF.trans (if_neg c5)
          exact qX_hears_80 S R H (fun M1 r1 q1 q2 q3 u => K M1 r1 q1 q2 q3 (hF.trans u))
set_option maxRecDepth 100000 in
set_option maxHeartbeats 4000000 in
theorem qX_hears {n : Nat} {X : Prop} {Q : z_Mem → Prop} {p1 : Int32} {p2 : Int32} {M : z_Mem} {r : q_R} (S : y_S n M) (R : q_rep n M r) (H : P_X12_hears (n + 40) p1 p2 M Q) (K : ∀ M1 r1, Q M1 → y_S n M1 → q_rep n M1 r1 → qF_hears p1 p2 r = r1 → X) : X := by
  have hF := qE_hears p1 p2 r
  unfold P_X12_hears at H
  rcases q_em H with ⟨c1, H⟩ | ⟨c1, H⟩
  · skip
    replace hF := hF.trans (if_pos c1)
    exact qX_hears_12 S R H (fun M1 r1 q1 q2 q3 u => K M1 r1 q1 q2 q3 (hF.trans u))
  · skip
    replace hF := hF.trans (if_neg c1)
    exact qX_hears_12 S R H (fun M1 r1 q1 q2 q3 u => K M1 r1 q1 q2 q3 (hF.trans u))
set_option maxRecDepth 100000 in
set_option maxHeartbeats 4000000 in
theorem qX_arrivesAtServer_46 {n : Nat} {X : Prop} {Q : z_Mem → Prop} {x2 : Int32} {x3 : Int32} {M : z_Mem} {r : q_R} (S : y_S n M) (R : q_rep n M r) (H : P_X12_arrivesAtServer_46 (n + 40) Q x2 x3 M) (K : ∀ M1 r1, Q M1 → y_S n M1 → q_rep n M1 r1 → qF_arrivesAtServer_46 x2 x3 r = r1 → X) : X := by
  have hF := qE_arrivesAtServer_46 x2 x3 r
  unfold P_X12_arrivesAtServer_46 at H
  try simp only [qf_1562 R] at H
  rcases q_em H with ⟨c1, H⟩ | ⟨c1, H⟩
  · skip
    replace hF := hF.trans (if_pos c1)
    refine qX_answers S R H (fun M_11 r_M_11 H S_M_11 R_M_11 u => ?_)
    replace hF := hF.trans (q_ste u.symm)
    exact K _ _ H S_M_11 R_M_11 hF
  · skip
    replace hF := hF.trans (if_neg c1)
    rcases q_em H with ⟨c2, H⟩ | ⟨c2, H⟩
    · skip
      replace hF := hF.trans (if_pos c2)
      try simp only [qf_1562 R] at H
      rcases q_em H with ⟨c3, H⟩ | ⟨c3, H⟩
      · skip
        replace hF := hF.trans (if_pos c3)
        refine qX_answers S R H (fun M_10 r_M_10 H S_M_10 R_M_10 u => ?_)
        replace hF := hF.trans (q_ste u.symm)
        exact K _ _ H S_M_10 R_M_10 hF
      · skip
        replace hF := hF.trans (if_neg c3)
        rcases q_em H with ⟨c4, H⟩ | ⟨c4, H⟩
        · skip
          replace hF := hF.trans (if_pos c4)
          obtain ⟨M_9, e_M_9, H⟩ := q_all H
          have S_M_9 : y_S n M_9 := by rw [e_M_9]; exact S_sfi S
          have R_M_9 := rep_sfi R e_M_9
          obtain ⟨r_M_9, h_M_9⟩ := q_gen R_M_9
          replace hF := hF.trans (q_ste h_M_9.2)
          replace R_M_9 := h_M_9.1
          exact K _ _ H S_M_9 R_M_9 hF
        · skip
          replace hF := hF.trans (if_neg c4)
          exact K _ _ H S R hF
    · skip
      replace hF := hF.trans (if_neg c2)
      rcases q_em H with ⟨c5, H⟩ | ⟨c5, H⟩
      · skip
        replace hF := hF.trans (if_pos c5)
        obtain ⟨M_5, e_M_5, H⟩ := q_all H
        have S_M_5 : y_S n M_5 := by rw [e_M_5]; exact S_sfi S
        have R_M_5 := rep_sfi R e_M_5
        obtain ⟨r_M_5, h_M_5⟩ := q_gen R_M_5
        replace hF := hF.trans (q_ste h_M_5.2)
        replace R_M_5 := h_M_5.1
        exact K _ _ H S_M_5 R_M_5 hF
      · skip
        replace hF := hF.trans (if_neg c5)
        exact K _ _ H S R hF
set_option maxRecDepth 100000 in
set_option maxHeartbeats 4000000 in
theorem qX_arrivesAtServer {n : Nat} {X : Prop} {Q : z_Mem → Prop} {p1 : Int32} {M : z_Mem} {r : q_R} (S : y_S n M) (R : q_rep n M r) (H : P_X12_arrivesAtServer (n + 40) p1 M Q) (K : ∀ M1 r1, Q M1 → y_S n M1 → q_rep n M1 r1 → qF_arrivesAtServer p1 r = r1 → X) : X := by
  have hF := qE_arrivesAtServer p1 r
  unfold P_X12_arrivesAtServer at H
  replace H := z_nne (s_1548_40 S) H
  replace H := H.2
  try simp only [qa_52 R] at H
  obtain ⟨x_15, e_x_15, H⟩ := q_all H
  replace hF := hF.trans (q_ste e_x_15)
  replace H := z_nne (s_1550_40 S) H
  replace H := H.2
  try simp only [qa_54 R] at H
  obtain ⟨x_19, e_x_19, H⟩ := q_all H
  replace hF := hF.trans (q_ste e_x_19)
  rcases q_em H with ⟨c1, H⟩ | ⟨c1, H⟩
  · skip
    replace hF := hF.trans (if_pos c1)
    replace H := z_nne (s_1549_40 S) H
    replace H := H.2
    try simp only [qa_53 R] at H
    refine qX_hears S R H (fun M_29 r_M_29 H S_M_29 R_M_29 u => ?_)
    replace hF := hF.trans (q_ste u.symm)
    exact K _ _ H S_M_29 R_M_29 hF
  · skip
    replace hF := hF.trans (if_neg c1)
    rcases q_em H with ⟨c2, H⟩ | ⟨c2, H⟩
    · skip
      replace hF := hF.trans (if_pos c2)
      replace H := z_nne (s_1549_40 S) H
      replace H := H.2
      try simp only [qa_53 R] at H
      refine qX_takes S R H (fun M_25 r_M_25 H S_M_25 R_M_25 u => ?_)
      replace hF := hF.trans (q_ste u.symm)
      exact qX_arrivesAtServer_46 S_M_25 R_M_25 H (fun M1 r1 q1 q2 q3 u => K M1 r1 q1 q2 q3 (hF.trans u))
    · skip
      replace hF := hF.trans (if_neg c2)
      exact qX_arrivesAtServer_46 S R H (fun M1 r1 q1 q2 q3 u => K M1 r1 q1 q2 q3 (hF.trans u))
set_option maxRecDepth 100000 in
set_option maxHeartbeats 4000000 in
theorem qX_setCookies {n : Nat} {X : Prop} {Q : Int32 → z_Mem → Prop} {p1 : Int32} {M : z_Mem} {r : q_R} (S : y_S n M) (R : q_rep n M r) (H : P_X12_setCookies (n + 40) p1 M Q) (K : ∀ x M1 r1, Q x M1 → y_S n M1 → q_rep n M1 r1 → qF_setCookies p1 r = (x, r1) → X) : X := by
  have hF := qE_setCookies p1 r
  unfold P_X12_setCookies at H
  obtain ⟨M_1, e_M_1, H⟩ := q_all H
  have S_M_1 : y_S n M_1 := by rw [e_M_1]; exact S_sfi S
  have R_M_1 := rep_sfi R e_M_1
  obtain ⟨r_M_1, h_M_1⟩ := q_gen R_M_1
  replace hF := hF.trans (q_ste h_M_1.2)
  replace R_M_1 := h_M_1.1
  try simp only [qf_1563 R_M_1] at H
  obtain ⟨x_3, e_x_3, H⟩ := q_all H
  replace hF := hF.trans (q_ste e_x_3)
  obtain ⟨M_4, e_M_4, H⟩ := q_all H
  have S_M_4 : y_S n M_4 := by rw [e_M_4]; exact S_sfi S_M_1
  have R_M_4 := rep_sfi R_M_1 e_M_4
  obtain ⟨r_M_4, h_M_4⟩ := q_gen R_M_4
  replace hF := hF.trans (q_ste h_M_4.2)
  replace R_M_4 := h_M_4.1
  exact K _ _ _ H S_M_4 R_M_4 hF
set_option maxRecDepth 100000 in
set_option maxHeartbeats 4000000 in
theorem qX_read_45 {n : Nat} {X : Prop} {Q : Int32 → z_Mem → Prop} {x1 : Int32} {t0 : Int32} {M : z_Mem} {r : q_R} (S : y_S n M) (R : q_rep n M r) (H : P_X12_read_45 (n + 40) Q x1 t0 M) (K : ∀ x M1 r1, Q x M1 → y_S n M1 → q_rep n M1 r1 → qF_read_45 x1 t0 r = (x, r1) → X) : X := by
  have hF := qE_read_45 x1 t0 r
  unfold P_X12_read_45 at H
  replace H := z_nne (s_1571_40 S) H
  replace H := H.2
  replace H := H.2
  try simp only [qa_65 R] at H
  obtain ⟨M_5, e_M_5, H⟩ := q_all H
  have S_M_5 : y_S n M_5 := by rw [e_M_5]; exact S_sai S
  have R_M_5 := rep_sai R (by decide) (by decide) e_M_5
  obtain ⟨r_M_5, h_M_5⟩ := q_gen R_M_5
  replace hF := hF.trans (q_ste h_M_5.2)
  replace R_M_5 := h_M_5.1
  rcases q_em H with ⟨c1, H⟩ | ⟨c1, H⟩
  · skip
    replace hF := hF.trans (if_pos c1)
    exact K _ _ _ H S_M_5 R_M_5 hF
  · skip
    replace hF := hF.trans (if_neg c1)
    try simp only [qf_1562 R_M_5] at H
    rcases q_em H with ⟨c2, H⟩ | ⟨c2, H⟩
    · skip
      replace hF := hF.trans (if_pos c2)
      try simp only [qf_1575 R_M_5] at H
      rcases q_em H with ⟨c3, H⟩ | ⟨c3, H⟩
      · skip
        replace hF := hF.trans (if_pos c3)
        exact K _ _ _ H S_M_5 R_M_5 hF
      · skip
        replace hF := hF.trans (if_neg c3)
        refine qX_acknowledges S_M_5 R_M_5 H (fun M_11 r_M_11 H S_M_11 R_M_11 u => ?_)
        replace hF := hF.trans (q_ste u.symm)
        exact K _ _ _ H S_M_11 R_M_11 hF
    · skip
      replace hF := hF.trans (if_neg c2)
      exact K _ _ _ H S_M_5 R_M_5 hF
set_option maxRecDepth 100000 in
set_option maxHeartbeats 4000000 in
theorem qX_read {n : Nat} {X : Prop} {Q : Int32 → z_Mem → Prop} {p1 : Int32} {p2 : Int32} {M : z_Mem} {r : q_R} (S : y_S n M) (R : q_rep n M r) (H : P_X12_read (n + 40) p1 p2 M Q) (K : ∀ x M1 r1, Q x M1 → y_S n M1 → q_rep n M1 r1 → qF_read p1 p2 r = (x, r1) → X) : X := by
  have hF := qE_read p1 p2 r
  unfold P_X12_read at H
  refine qX_isStream S R H (fun x_12 M_12 r_M_12 H S_M_12 R_M_12 u => ?_)
  replace hF := hF.trans (q_ste2 u)
  refine qX_in S_M_12 R_M_12 H (fun x_13 M_13 r_M_13 H S_M_13 R_M_13 u => ?_)
  replace hF := hF.trans (q_ste2 u)
  refine qX_goes S_M_13 R_M_13 H (fun x_14 M_14 r_M_14 H S_M_14 R_M_14 u => ?_)
  replace hF := hF.trans (q_ste2 u)
  rcases q_em H with ⟨c1, H⟩ | ⟨c1, H⟩
  · skip
    replace hF := hF.trans (if_pos c1)
    exact K _ _ _ H S_M_14 R_M_14 hF
  · skip
    replace hF := hF.trans (if_neg c1)
    refine qX_gotOf S_M_14 R_M_14 H (fun x_16 M_16 r_M_16 H S_M_16 R_M_16 u => ?_)
    replace hF := hF.trans (q_ste2 u)
    replace H := z_nne (s_1571_40 S_M_16) H
    replace H := H.2
    try simp only [qa_65 R_M_16] at H
    obtain ⟨x_20, e_x_20, H⟩ := q_all H
    replace hF := hF.trans (q_ste e_x_20)
    rcases q_em H with ⟨c2, H⟩ | ⟨c2, H⟩
    · skip
      replace hF := hF.trans (if_pos c2)
      exact qX_read_45 S_M_16 R_M_16 H (fun x M1 r1 q1 q2 q3 u => K x M1 r1 q1 q2 q3 (hF.trans u))
    · skip
      replace hF := hF.trans (if_neg c2)
      exact qX_read_45 S_M_16 R_M_16 H (fun x M1 r1 q1 q2 q3 u => K x M1 r1 q1 q2 q3 (hF.trans u))
set_option maxRecDepth 100000 in
set_option maxHeartbeats 4000000 in
theorem qX_loseState_12 {n : Nat} {X : Prop} {Q : z_Mem → Prop} : ∀ (m : Nat) {x1 : Int32} {M : z_Mem} {r : q_R} (S : y_S n M) (R : q_rep n M r) (H : P_X12_loseState_12 (n + 40) Q m x1 M) (K : ∀ M1 r1, Q M1 → y_S n M1 → q_rep n M1 r1 → qF_loseState_12 x1 r = r1 → X), X := by
  intro m
  induction m with
  | zero => intros; rename_i H _; exact False.elim H
  | succ m ih =>
    intro x1 M r S R H K
    have hF := qE_loseState_12 x1 r
    unfold P_X12_loseState_12 at H
    rcases q_em H with ⟨c1, H⟩ | ⟨c1, H⟩
    · skip
      replace hF := hF.trans (if_pos c1)
      obtain ⟨M_2, e_M_2, H⟩ := q_all H
      have S_M_2 : y_S n M_2 := by rw [e_M_2]; exact S_sfi S
      have R_M_2 := rep_sfi R e_M_2
      obtain ⟨r_M_2, h_M_2⟩ := q_gen R_M_2
      replace hF := hF.trans (q_ste h_M_2.2)
      replace R_M_2 := h_M_2.1
      obtain ⟨M_3, e_M_3, H⟩ := q_all H
      have S_M_3 : y_S n M_3 := by rw [e_M_3]; exact S_sfi S_M_2
      have R_M_3 := rep_sfi R_M_2 e_M_3
      obtain ⟨r_M_3, h_M_3⟩ := q_gen R_M_3
      replace hF := hF.trans (q_ste h_M_3.2)
      replace R_M_3 := h_M_3.1
      obtain ⟨M_4, e_M_4, H⟩ := q_all H
      have S_M_4 : y_S n M_4 := by rw [e_M_4]; exact S_sfi S_M_3
      have R_M_4 := rep_sfi R_M_3 e_M_4
      obtain ⟨r_M_4, h_M_4⟩ := q_gen R_M_4
      replace hF := hF.trans (q_ste h_M_4.2)
      replace R_M_4 := h_M_4.1
      obtain ⟨M_5, e_M_5, H⟩ := q_all H
      have S_M_5 : y_S n M_5 := by rw [e_M_5]; exact S_sfi S_M_4
      have R_M_5 := rep_sfi R_M_4 e_M_5
      obtain ⟨r_M_5, h_M_5⟩ := q_gen R_M_5
      replace hF := hF.trans (q_ste h_M_5.2)
      replace R_M_5 := h_M_5.1
      obtain ⟨M_6, e_M_6, H⟩ := q_all H
      have S_M_6 : y_S n M_6 := by rw [e_M_6]; exact S_sfi S_M_5
      have R_M_6 := rep_sfi R_M_5 e_M_6
      obtain ⟨r_M_6, h_M_6⟩ := q_gen R_M_6
      replace hF := hF.trans (q_ste h_M_6.2)
      replace R_M_6 := h_M_6.1
      exact K _ _ H S_M_6 R_M_6 (qUr_loseState_12 hF)
    · skip
      replace hF := hF.trans (if_neg c1)
      replace H := z_nne (s_1569_40 S) H
      replace H := H.2
      obtain ⟨M_10, e_M_10, H⟩ := q_all H
      have S_M_10 : y_S n M_10 := by rw [e_M_10]; exact S_sai S
      have R_M_10 := rep_sai R (by decide) (by decide) e_M_10
      obtain ⟨r_M_10, h_M_10⟩ := q_gen R_M_10
      replace hF := hF.trans (q_ste h_M_10.2)
      replace R_M_10 := h_M_10.1
      obtain ⟨x_11, e_x_11, H⟩ := q_all H
      replace hF := hF.trans (q_ste e_x_11)
      replace hF := qUl_loseState_12 hF
      exact ih S_M_10 R_M_10 H (fun M1 r1 q1 q2 q3 u => K M1 r1 q1 q2 q3 (hF.trans u))
set_option maxRecDepth 100000 in
set_option maxHeartbeats 4000000 in
theorem qX_loseState {n : Nat} {X : Prop} {Q : z_Mem → Prop} {M : z_Mem} {r : q_R} (S : y_S n M) (R : q_rep n M r) (H : P_X12_loseState (n + 40) M Q) (K : ∀ M1 r1, Q M1 → y_S n M1 → q_rep n M1 r1 → qF_loseState r = r1 → X) : X := by
  have hF := qE_loseState r
  unfold P_X12_loseState at H
  obtain ⟨M_12, e_M_12, H⟩ := q_all H
  have S_M_12 : y_S n M_12 := by rw [e_M_12]; exact S_sfi S
  have R_M_12 := rep_sfi R e_M_12
  obtain ⟨r_M_12, h_M_12⟩ := q_gen R_M_12
  replace hF := hF.trans (q_ste h_M_12.2)
  replace R_M_12 := h_M_12.1
  obtain ⟨M_13, e_M_13, H⟩ := q_all H
  have S_M_13 : y_S n M_13 := by rw [e_M_13]; exact S_sfi S_M_12
  have R_M_13 := rep_sfi R_M_12 e_M_13
  obtain ⟨r_M_13, h_M_13⟩ := q_gen R_M_13
  replace hF := hF.trans (q_ste h_M_13.2)
  replace R_M_13 := h_M_13.1
  obtain ⟨m, H⟩ := H
  exact qX_loseState_12 m S_M_13 R_M_13 H (fun M1 r1 q1 q2 q3 u => K M1 r1 q1 q2 q3 (hF.trans u))
set_option maxRecDepth 100000 in
set_option maxHeartbeats 4000000 in
theorem qX_measures_105 {n : Nat} {X : Prop} {Q : z_Mem → Prop} {x1 : Int32} {x2 : Int32} {t1 : Int32} {t2 : Int32} {t3 : Int32} {t0 : Nat} {o_t0 : Option Nat} {M : z_Mem} {r : q_R} (h0_t0 : 41 ≤ t0) (h1_t0 : t0 < 107) (ho_t0 : o_t0 = some (n + t0)) (S : y_S n M) (R : q_rep n M r) (H : P_X12_measures_105 (n + 40) Q x1 x2 o_t0 t1 t2 t3 M) (K : ∀ M1 r1, Q M1 → y_S n M1 → q_rep n M1 r1 → qF_measures_105 x1 x2 t0 t1 t2 t3 r = r1 → X) : X := by
  subst ho_t0
  have hF := qE_measures_105 x1 x2 t0 t1 t2 t3 r
  unfold P_X12_measures_105 at H
  replace H := z_nne (s_1611_40 S) H
  replace H := H.2
  replace H := z_nne rfl H
  replace H := H.2
  try simp only [qa_88 R] at H
  obtain ⟨M_6, e_M_6, H⟩ := q_all H
  have S_M_6 : y_S n M_6 := by rw [e_M_6]; exact S_sai S
  have R_M_6 := rep_sai R h0_t0 h1_t0 e_M_6
  obtain ⟨r_M_6, h_M_6⟩ := q_gen R_M_6
  replace hF := hF.trans (q_ste h_M_6.2)
  replace R_M_6 := h_M_6.1
  replace H := z_nne (s_1610_40 S_M_6) H
  replace H := H.2
  replace H := z_nne (s_1610_40 S_M_6) H
  replace H := H.2
  replace H := H.2
  try simp only [qa_87 R_M_6] at H
  obtain ⟨M_14, e_M_14, H⟩ := q_all H
  have S_M_14 : y_S n M_14 := by rw [e_M_14]; exact S_sai S_M_6
  have R_M_14 := rep_sai R_M_6 (by decide) (by decide) e_M_14
  obtain ⟨r_M_14, h_M_14⟩ := q_gen R_M_14
  replace hF := hF.trans (q_ste h_M_14.2)
  replace R_M_14 := h_M_14.1
  exact K _ _ H S_M_14 R_M_14 hF
set_option maxRecDepth 100000 in
set_option maxHeartbeats 4000000 in
theorem qX_measures_75 {n : Nat} {X : Prop} {Q : z_Mem → Prop} {x1 : Int32} {x2 : Int32} {t1 : Int32} {t2 : Int32} {t0 : Nat} {o_t0 : Option Nat} {M : z_Mem} {r : q_R} (h0_t0 : 41 ≤ t0) (h1_t0 : t0 < 107) (ho_t0 : o_t0 = some (n + t0)) (S : y_S n M) (R : q_rep n M r) (H : P_X12_measures_75 (n + 40) Q x1 x2 o_t0 t1 t2 M) (K : ∀ M1 r1, Q M1 → y_S n M1 → q_rep n M1 r1 → qF_measures_75 x1 x2 t0 t1 t2 r = r1 → X) : X := by
  subst ho_t0
  have hF := qE_measures_75 x1 x2 t0 t1 t2 r
  unfold P_X12_measures_75 at H
  replace H := z_nne rfl H
  replace H := H.2
  obtain ⟨M_17, e_M_17, H⟩ := q_all H
  have S_M_17 : y_S n M_17 := by rw [e_M_17]; exact S_sai S
  have R_M_17 := rep_sai R h0_t0 h1_t0 e_M_17
  obtain ⟨r_M_17, h_M_17⟩ := q_gen R_M_17
  replace hF := hF.trans (q_ste h_M_17.2)
  replace R_M_17 := h_M_17.1
  replace H := z_nne (s_1610_40 S_M_17) H
  replace H := H.2
  try simp only [qa_87 R_M_17] at H
  obtain ⟨x_21, e_x_21, H⟩ := q_all H
  replace hF := hF.trans (q_ste e_x_21)
  replace H := z_nne (s_1611_40 S_M_17) H
  replace H := H.2
  rcases q_em H with ⟨c1, H⟩ | ⟨c1, H⟩
  · skip
    replace hF := hF.trans (if_pos c1)
    try simp only [qa_88 R_M_17] at H
    exact qX_measures_105 (by decide) (by decide) (s_1611_40 S_M_17) S_M_17 R_M_17 H (fun M1 r1 q1 q2 q3 u => K M1 r1 q1 q2 q3 (hF.trans u))
  · skip
    replace hF := hF.trans (if_neg c1)
    try simp only [qa_88 R_M_17] at H
    exact qX_measures_105 (by decide) (by decide) (s_1611_40 S_M_17) S_M_17 R_M_17 H (fun M1 r1 q1 q2 q3 u => K M1 r1 q1 q2 q3 (hF.trans u))
set_option maxRecDepth 100000 in
set_option maxHeartbeats 4000000 in
theorem qX_measures {n : Nat} {X : Prop} {Q : z_Mem → Prop} {p1 : Int32} {p2 : Int32} {M : z_Mem} {r : q_R} (S : y_S n M) (R : q_rep n M r) (H : P_X12_measures (n + 40) p1 p2 M Q) (K : ∀ M1 r1, Q M1 → y_S n M1 → q_rep n M1 r1 → qF_measures p1 p2 r = r1 → X) : X := by
  have hF := qE_measures p1 p2 r
  unfold P_X12_measures at H
  replace H := z_nne (s_1613_40 S) H
  replace H := H.2
  obtain ⟨M_29, e_M_29, H⟩ := q_all H
  have S_M_29 : y_S n M_29 := by rw [e_M_29]; exact S_sai S
  have R_M_29 := rep_sai R (by decide) (by decide) e_M_29
  obtain ⟨r_M_29, h_M_29⟩ := q_gen R_M_29
  replace hF := hF.trans (q_ste h_M_29.2)
  replace R_M_29 := h_M_29.1
  replace H := z_nne (s_1614_40 S_M_29) H
  replace H := H.2
  try simp only [qa_91 R_M_29] at H
  rcases q_em H with ⟨c1, H⟩ | ⟨c1, H⟩
  · skip
    replace hF := hF.trans (if_pos c1)
    replace H := z_nne (s_1614_40 S_M_29) H
    replace H := H.2
    obtain ⟨M_45, e_M_45, H⟩ := q_all H
    have S_M_45 : y_S n M_45 := by rw [e_M_45]; exact S_sai S_M_29
    have R_M_45 := rep_sai R_M_29 (by decide) (by decide) e_M_45
    obtain ⟨r_M_45, h_M_45⟩ := q_gen R_M_45
    replace hF := hF.trans (q_ste h_M_45.2)
    replace R_M_45 := h_M_45.1
    replace H := z_nne (s_1610_40 S_M_45) H
    replace H := H.2
    obtain ⟨M_49, e_M_49, H⟩ := q_all H
    have S_M_49 : y_S n M_49 := by rw [e_M_49]; exact S_sai S_M_45
    have R_M_49 := rep_sai R_M_45 (by decide) (by decide) e_M_49
    obtain ⟨r_M_49, h_M_49⟩ := q_gen R_M_49
    replace hF := hF.trans (q_ste h_M_49.2)
    replace R_M_49 := h_M_49.1
    replace H := z_nne (s_1611_40 S_M_49) H
    replace H := H.2
    obtain ⟨M_53, e_M_53, H⟩ := q_all H
    have S_M_53 : y_S n M_53 := by rw [e_M_53]; exact S_sai S_M_49
    have R_M_53 := rep_sai R_M_49 (by decide) (by decide) e_M_53
    obtain ⟨r_M_53, h_M_53⟩ := q_gen R_M_53
    replace hF := hF.trans (q_ste h_M_53.2)
    replace R_M_53 := h_M_53.1
    replace H := z_nne (s_1612_40 S_M_53) H
    replace H := H.2
    obtain ⟨M_57, e_M_57, H⟩ := q_all H
    have S_M_57 : y_S n M_57 := by rw [e_M_57]; exact S_sai S_M_53
    have R_M_57 := rep_sai R_M_53 (by decide) (by decide) e_M_57
    obtain ⟨r_M_57, h_M_57⟩ := q_gen R_M_57
    replace hF := hF.trans (q_ste h_M_57.2)
    replace R_M_57 := h_M_57.1
    exact K _ _ H S_M_57 R_M_57 hF
  · skip
    replace hF := hF.trans (if_neg c1)
    replace H := z_nne (s_1612_40 S_M_29) H
    replace H := H.2
    try simp only [qa_89 R_M_29] at H
    rcases q_em H with ⟨c2, H⟩ | ⟨c2, H⟩
    · skip
      replace hF := hF.trans (if_pos c2)
      replace H := z_nne (s_1612_40 S_M_29) H
      replace H := H.2
      try simp only [qa_89 R_M_29] at H
      exact qX_measures_75 (by decide) (by decide) (s_1612_40 S_M_29) S_M_29 R_M_29 H (fun M1 r1 q1 q2 q3 u => K M1 r1 q1 q2 q3 (hF.trans u))
    · skip
      replace hF := hF.trans (if_neg c2)
      exact qX_measures_75 (by decide) (by decide) (s_1612_40 S_M_29) S_M_29 R_M_29 H (fun M1 r1 q1 q2 q3 u => K M1 r1 q1 q2 q3 (hF.trans u))
set_option maxRecDepth 100000 in
set_option maxHeartbeats 4000000 in
theorem qX_inFlight_37 {n : Nat} {X : Prop} {Q : Int32 → z_Mem → Prop} {QJ4 : Int32 → Int32 → Int32 → z_Mem → Prop} {x1 : Int32} {x3 : Int32} {t0 : Int32} {t1 : Int32} {M : z_Mem} {r : q_R} (S : y_S n M) (R : q_rep n M r) (H : P_X12_inFlight_37 (n + 40) Q QJ4 x1 x3 t0 t1 M) (K : ∀ x M1 r1, Q x M1 → y_S n M1 → q_rep n M1 r1 → qF_inFlight_37 x1 x3 t0 t1 r = (.inr (x, r1)) → X) (KJ4 : ∀ v0 v1 v2 M1 r1, QJ4 v0 v1 v2 M1 → y_S n M1 → q_rep n M1 r1 → qF_inFlight_37 x1 x3 t0 t1 r = (.inl (v0, v1, v2, r1)) → X) : X := by
  have hF := qE_inFlight_37 x1 x3 t0 t1 r
  unfold P_X12_inFlight_37 at H
  obtain ⟨x_1, e_x_1, H⟩ := q_all H
  replace hF := hF.trans (q_ste e_x_1)
  obtain ⟨x_2, e_x_2, H⟩ := q_all H
  replace hF := hF.trans (q_ste e_x_2)
  exact KJ4 _ _ _ _ _ H S R hF
set_option maxRecDepth 100000 in
set_option maxHeartbeats 4000000 in
theorem qX_inFlight_36 {n : Nat} {X : Prop} {Q : Int32 → z_Mem → Prop} {QJ4 : Int32 → Int32 → Int32 → z_Mem → Prop} {x1 : Int32} {x3 : Int32} {t0 : Int32} {M : z_Mem} {r : q_R} (S : y_S n M) (R : q_rep n M r) (H : P_X12_inFlight_36 (n + 40) Q QJ4 x1 x3 t0 M) (K : ∀ x M1 r1, Q x M1 → y_S n M1 → q_rep n M1 r1 → qF_inFlight_36 x1 x3 t0 r = (.inr (x, r1)) → X) (KJ4 : ∀ v0 v1 v2 M1 r1, QJ4 v0 v1 v2 M1 → y_S n M1 → q_rep n M1 r1 → qF_inFlight_36 x1 x3 t0 r = (.inl (v0, v1, v2, r1)) → X) : X := by
  have hF := qE_inFlight_36 x1 x3 t0 r
  unfold P_X12_inFlight_36 at H
  exact qX_inFlight_37 S R H (fun x M1 r1 q1 q2 q3 u => K x M1 r1 q1 q2 q3 (hF.trans u)) (fun v0 v1 v2 M1 r1 q1 q2 q3 u => KJ4 v0 v1 v2 M1 r1 q1 q2 q3 (hF.trans u))
set_option maxRecDepth 100000 in
set_option maxHeartbeats 4000000 in
theorem qX_inFlight_4 {n : Nat} {X : Prop} {Q : Int32 → z_Mem → Prop} : ∀ (m : Nat) {x1 : Int32} {x2 : Int32} {x3 : Int32} {M : z_Mem} {r : q_R} (S : y_S n M) (R : q_rep n M r) (H : P_X12_inFlight_4 (n + 40) Q m x1 x2 x3 M) (K : ∀ x M1 r1, Q x M1 → y_S n M1 → q_rep n M1 r1 → qF_inFlight_4 x1 x2 x3 r = (x, r1) → X), X := by
  intro m
  induction m with
  | zero => intros; rename_i H _; exact False.elim H
  | succ m ih =>
    intro x1 x2 x3 M r S R H K
    have hF := qE_inFlight_4 x1 x2 x3 r
    unfold P_X12_inFlight_4 at H
    try simp only [qf_1606 R] at H
    rcases q_em H with ⟨c1, H⟩ | ⟨c1, H⟩
    · skip
      replace hF := hF.trans (if_pos c1)
      exact K _ _ _ H S R (qUr_inFlight_4 hF)
    · skip
      replace hF := hF.trans (if_neg c1)
      replace H := z_nne (s_1593_40 S) H
      replace H := H.2
      try simp only [qa_71 R] at H
      rcases q_em H with ⟨c2, H⟩ | ⟨c2, H⟩
      · skip
        replace hF := hF.trans (if_pos c2)
        replace H := z_nne (s_1598_40 S) H
        replace H := H.2
        try simp only [qa_76 R] at H
        rcases q_em H with ⟨c3, H⟩ | ⟨c3, H⟩
        · skip
          replace hF := hF.trans (if_pos c3)
          exact qX_inFlight_37 S R H (fun x M1 r1 q1 q2 q3 u => K x M1 r1 q1 q2 q3 (qUr_inFlight_4 (hF.trans u))) (fun v0 v1 v2 M1 r1 q1 q2 q3 u => ih q2 q3 q1 (fun x M1 r1 q1 q2 q3 u2 => K x M1 r1 q1 q2 q3 ((qUl_inFlight_4 (hF.trans u)).trans u2))) 
        · skip
          replace hF := hF.trans (if_neg c3)
          exact qX_inFlight_36 S R H (fun x M1 r1 q1 q2 q3 u => K x M1 r1 q1 q2 q3 (qUr_inFlight_4 (hF.trans u))) (fun v0 v1 v2 M1 r1 q1 q2 q3 u => ih q2 q3 q1 (fun x M1 r1 q1 q2 q3 u2 => K x M1 r1 q1 q2 q3 ((qUl_inFlight_4 (hF.trans u)).trans u2))) 
      · skip
        replace hF := hF.trans (if_neg c2)
        exact qX_inFlight_36 S R H (fun x M1 r1 q1 q2 q3 u => K x M1 r1 q1 q2 q3 (qUr_inFlight_4 (hF.trans u))) (fun v0 v1 v2 M1 r1 q1 q2 q3 u => ih q2 q3 q1 (fun x M1 r1 q1 q2 q3 u2 => K x M1 r1 q1 q2 q3 ((qUl_inFlight_4 (hF.trans u)).trans u2))) 
set_option maxRecDepth 100000 in
set_option maxHeartbeats 4000000 in
theorem qX_inFlight {n : Nat} {X : Prop} {Q : Int32 → z_Mem → Prop} {p1 : Int32} {M : z_Mem} {r : q_R} (S : y_S n M) (R : q_rep n M r) (H : P_X12_inFlight (n + 40) p1 M Q) (K : ∀ x M1 r1, Q x M1 → y_S n M1 → q_rep n M1 r1 → qF_inFlight p1 r = (x, r1) → X) : X := by
  have hF := qE_inFlight p1 r
  unfold P_X12_inFlight at H
  obtain ⟨m, H⟩ := H
  exact qX_inFlight_4 m S R H (fun x M1 r1 q1 q2 q3 u => K x M1 r1 q1 q2 q3 (hF.trans u))
set_option maxRecDepth 100000 in
set_option maxHeartbeats 4000000 in
theorem qX_byCube_11 {n : Nat} {X : Prop} {Q : Int32 → z_Mem → Prop} : ∀ (m : Nat) {x1 : Int32} {x2 : Int64} {x4 : Int64} {M : z_Mem} {r : q_R} (S : y_S n M) (R : q_rep n M r) (H : P_X12_byCube_11 (n + 40) Q m x1 x2 x4 M) (K : ∀ x M1 r1, Q x M1 → y_S n M1 → q_rep n M1 r1 → qF_byCube_11 x1 x2 x4 r = (x, r1) → X), X := by
  intro m
  induction m with
  | zero => intros; rename_i H _; exact False.elim H
  | succ m ih =>
    intro x1 x2 x4 M r S R H K
    have hF := qE_byCube_11 x1 x2 x4 r
    unfold P_X12_byCube_11 at H
    rcases q_em H with ⟨c1, H⟩ | ⟨c1, H⟩
    · skip
      replace hF := hF.trans (if_pos c1)
      replace H := z_nne (s_1624_40 S) H
      replace H := H.2
      try simp only [qa_101 R, qf_1536 R] at H
      obtain ⟨x_6, e_x_6, H⟩ := q_all H
      replace hF := hF.trans (q_ste e_x_6)
      obtain ⟨x_7, e_x_7, H⟩ := q_all H
      replace hF := hF.trans (q_ste e_x_7)
      replace H := z_nne (s_1607_40 S) H
      replace H := H.2
      replace H := z_nne (s_1607_40 S) H
      replace H := H.2
      replace H := H.2
      try simp only [qa_84 R] at H
      obtain ⟨x_15, e_x_15, H⟩ := q_all H
      replace hF := hF.trans (q_ste e_x_15)
      rcases q_em H with ⟨c2, H⟩ | ⟨c2, H⟩
      · skip
        replace hF := hF.trans (if_pos c2)
        exact K _ _ _ H S R (qUr_byCube_11 hF)
      · skip
        replace hF := hF.trans (if_neg c2)
        exact K _ _ _ H S R (qUr_byCube_11 hF)
    · skip
      replace hF := hF.trans (if_neg c1)
      obtain ⟨x_17, e_x_17, H⟩ := q_all H
      replace hF := hF.trans (q_ste e_x_17)
      replace hF := qUl_byCube_11 hF
      exact ih S R H (fun x M1 r1 q1 q2 q3 u => K x M1 r1 q1 q2 q3 (hF.trans u))
set_option maxRecDepth 100000 in
set_option maxHeartbeats 4000000 in
theorem qX_byCube {n : Nat} {X : Prop} {Q : Int32 → z_Mem → Prop} {p1 : Int32} {M : z_Mem} {r : q_R} (S : y_S n M) (R : q_rep n M r) (H : P_X12_byCube (n + 40) p1 M Q) (K : ∀ x M1 r1, Q x M1 → y_S n M1 → q_rep n M1 r1 → qF_byCube p1 r = (x, r1) → X) : X := by
  have hF := qE_byCube p1 r
  unfold P_X12_byCube at H
  replace H := z_nne (s_1626_40 S) H
  replace H := H.2
  try simp only [qa_103 R] at H
  obtain ⟨x_21, e_x_21, H⟩ := q_all H
  replace hF := hF.trans (q_ste e_x_21)
  obtain ⟨m, H⟩ := H
  exact qX_byCube_11 m S R H (fun x M1 r1 q1 q2 q3 u => K x M1 r1 q1 q2 q3 (hF.trans u))
set_option maxRecDepth 100000 in
set_option maxHeartbeats 4000000 in
theorem qX_grows_96 {n : Nat} {X : Prop} {Q : z_Mem → Prop} : ∀ (m : Nat) {x2 : Int32} {x4 : Int32} {x5 : Int32} {M : z_Mem} {r : q_R} (S : y_S n M) (R : q_rep n M r) (H : P_X12_grows_96 (n + 40) Q m x2 x4 x5 M) (K : ∀ M1 r1, Q M1 → y_S n M1 → q_rep n M1 r1 → qF_grows_96 x2 x4 x5 r = r1 → X), X := by
  intro m
  induction m with
  | zero => intros; rename_i H _; exact False.elim H
  | succ m ih =>
    intro x2 x4 x5 M r S R H K
    have hF := qE_grows_96 x2 x4 x5 r
    unfold P_X12_grows_96 at H
    rcases q_em H with ⟨c1, H⟩ | ⟨c1, H⟩
    · skip
      replace hF := hF.trans (if_pos c1)
      replace H := z_nne (s_1612_40 S) H
      replace H := H.2
      try simp only [qa_89 R] at H
      refine qX_max S R H (fun x_6 M_6 r_M_6 H S_M_6 R_M_6 u => ?_)
      replace hF := hF.trans (q_ste2 u)
      replace H := z_nne (s_1607_40 S) H
      replace H := H.2
      obtain ⟨M_9, e_M_9, H⟩ := q_all H
      have S_M_9 : y_S n M_9 := by rw [e_M_9]; exact S_sai S_M_6
      have R_M_9 := rep_sai R_M_6 (by decide) (by decide) e_M_9
      obtain ⟨r_M_9, h_M_9⟩ := q_gen R_M_9
      replace hF := hF.trans (q_ste h_M_9.2)
      replace R_M_9 := h_M_9.1
      exact K _ _ H S_M_9 R_M_9 (qUr_grows_96 hF)
    · skip
      replace hF := hF.trans (if_neg c1)
      replace H := z_nne (s_1621_40 S) H
      replace H := H.2
      try simp only [qa_98 R] at H
      refine qX_max S R H (fun x_13 M_13 r_M_13 H S_M_13 R_M_13 u => ?_)
      replace hF := hF.trans (q_ste2 u)
      obtain ⟨x_14, e_x_14, H⟩ := q_all H
      replace hF := hF.trans (q_ste e_x_14)
      replace hF := qUl_grows_96 hF
      exact ih S_M_13 R_M_13 H (fun M1 r1 q1 q2 q3 u => K M1 r1 q1 q2 q3 (hF.trans u))
set_option maxRecDepth 100000 in
set_option maxHeartbeats 4000000 in
theorem qX_grows {n : Nat} {X : Prop} {Q : z_Mem → Prop} {p1 : Int32} {M : z_Mem} {r : q_R} (S : y_S n M) (R : q_rep n M r) (H : P_X12_grows (n + 40) p1 M Q) (K : ∀ M1 r1, Q M1 → y_S n M1 → q_rep n M1 r1 → qF_grows p1 r = r1 → X) : X := by
  have hF := qE_grows p1 r
  unfold P_X12_grows at H
  replace H := z_nne (s_1593_40 S) H
  replace H := H.2
  try simp only [qa_71 R] at H
  obtain ⟨x_18, e_x_18, H⟩ := q_all H
  replace hF := hF.trans (q_ste e_x_18)
  replace H := z_nne (s_1620_40 S) H
  replace H := H.2
  replace H := H.2
  try simp only [qa_97 R] at H
  obtain ⟨M_23, e_M_23, H⟩ := q_all H
  have S_M_23 : y_S n M_23 := by rw [e_M_23]; exact S_sai S
  have R_M_23 := rep_sai R (by decide) (by decide) e_M_23
  obtain ⟨r_M_23, h_M_23⟩ := q_gen R_M_23
  replace hF := hF.trans (q_ste h_M_23.2)
  replace R_M_23 := h_M_23.1
  replace H := z_nne (s_1609_40 S_M_23) H
  replace H := H.2
  try simp only [qa_86 R_M_23] at H
  rcases q_em H with ⟨c1, H⟩ | ⟨c1, H⟩
  · skip
    replace hF := hF.trans (if_pos c1)
    replace H := z_nne (s_1620_40 S_M_23) H
    replace H := H.2
    replace H := z_nne (s_1605_40 S_M_23) H
    replace H := H.2
    replace H := z_nne (s_1594_40 S_M_23) H
    replace H := H.2
    try simp only [qa_72 R_M_23, qf_1536 R_M_23] at H
    refine qX_max S_M_23 R_M_23 H (fun x_67 M_67 r_M_67 H S_M_67 R_M_67 u => ?_)
    replace hF := hF.trans (q_ste2 u)
    replace H := H.2
    try simp only [qa_83 R_M_23, qa_97 R_M_23] at H
    obtain ⟨x_69, e_x_69, H⟩ := q_all H
    replace hF := hF.trans (q_ste e_x_69)
    replace H := z_nne (s_1622_40 S_M_67) H
    replace H := H.2
    replace H := z_nne (s_1621_40 S_M_67) H
    replace H := H.2
    try simp only [qa_99 R_M_67] at H
    obtain ⟨M_76, e_M_76, H⟩ := q_all H
    have S_M_76 : y_S n M_76 := by rw [e_M_76]; exact S_sai S_M_67
    have R_M_76 := rep_sai R_M_67 (by decide) (by decide) e_M_76
    obtain ⟨r_M_76, h_M_76⟩ := q_gen R_M_76
    replace hF := hF.trans (q_ste h_M_76.2)
    replace R_M_76 := h_M_76.1
    replace H := z_nne (s_1622_40 S_M_76) H
    replace H := H.2
    replace H := H.2
    try simp only [qa_99 R_M_76] at H
    obtain ⟨M_81, e_M_81, H⟩ := q_all H
    have S_M_81 : y_S n M_81 := by rw [e_M_81]; exact S_sai S_M_76
    have R_M_81 := rep_sai R_M_76 (by decide) (by decide) e_M_81
    obtain ⟨r_M_81, h_M_81⟩ := q_gen R_M_81
    replace hF := hF.trans (q_ste h_M_81.2)
    replace R_M_81 := h_M_81.1
    obtain ⟨m, H⟩ := H
    exact qX_grows_96 m S_M_81 R_M_81 H (fun M1 r1 q1 q2 q3 u => K M1 r1 q1 q2 q3 (hF.trans u))
  · skip
    replace hF := hF.trans (if_neg c1)
    replace H := z_nne (s_1607_40 S_M_23) H
    replace H := H.2
    replace H := z_nne (s_1608_40 S_M_23) H
    replace H := H.2
    try simp only [qa_84 R_M_23, qa_85 R_M_23] at H
    rcases q_em H with ⟨c2, H⟩ | ⟨c2, H⟩
    · skip
      replace hF := hF.trans (if_pos c2)
      replace H := z_nne (s_1607_40 S_M_23) H
      replace H := H.2
      replace H := z_nne (s_1609_40 S_M_23) H
      replace H := H.2
      try simp only [qa_86 R_M_23] at H
      rcases q_em H with ⟨c3, H⟩ | ⟨c3, H⟩
      · skip
        replace hF := hF.trans (if_pos c3)
        replace H := z_nne (s_1607_40 S_M_23) H
        replace H := H.2
        replace H := H.2
        try simp only [qa_84 R_M_23] at H
        refine qX_max S_M_23 R_M_23 H (fun x_49 M_49 r_M_49 H S_M_49 R_M_49 u => ?_)
        replace hF := hF.trans (q_ste2 u)
        replace H := H.2
        try simp only [qa_84 R_M_23] at H
        obtain ⟨M_51, e_M_51, H⟩ := q_all H
        have S_M_51 : y_S n M_51 := by rw [e_M_51]; exact S_sai S_M_49
        have R_M_51 := rep_sai R_M_49 (by decide) (by decide) e_M_51
        obtain ⟨r_M_51, h_M_51⟩ := q_gen R_M_51
        replace hF := hF.trans (q_ste h_M_51.2)
        replace R_M_51 := h_M_51.1
        exact K _ _ H S_M_51 R_M_51 hF
      · skip
        replace hF := hF.trans (if_neg c3)
        refine qX_byCube S_M_23 R_M_23 H (fun x_42 M_42 r_M_42 H S_M_42 R_M_42 u => ?_)
        replace hF := hF.trans (q_ste2 u)
        replace H := H.2
        try simp only [qa_84 R_M_23] at H
        obtain ⟨M_44, e_M_44, H⟩ := q_all H
        have S_M_44 : y_S n M_44 := by rw [e_M_44]; exact S_sai S_M_42
        have R_M_44 := rep_sai R_M_42 (by decide) (by decide) e_M_44
        obtain ⟨r_M_44, h_M_44⟩ := q_gen R_M_44
        replace hF := hF.trans (q_ste h_M_44.2)
        replace R_M_44 := h_M_44.1
        exact K _ _ H S_M_44 R_M_44 hF
    · skip
      replace hF := hF.trans (if_neg c2)
      replace H := z_nne (s_1607_40 S_M_23) H
      replace H := H.2
      replace H := H.2
      try simp only [qa_84 R_M_23] at H
      obtain ⟨M_56, e_M_56, H⟩ := q_all H
      have S_M_56 : y_S n M_56 := by rw [e_M_56]; exact S_sai S_M_23
      have R_M_56 := rep_sai R_M_23 (by decide) (by decide) e_M_56
      obtain ⟨r_M_56, h_M_56⟩ := q_gen R_M_56
      replace hF := hF.trans (q_ste h_M_56.2)
      replace R_M_56 := h_M_56.1
      exact K _ _ H S_M_56 R_M_56 hF
set_option maxRecDepth 100000 in
set_option maxHeartbeats 4000000 in
theorem qX_harms_129 {n : Nat} {X : Prop} {Q : z_Mem → Prop} {x1 : Int32} {t1 : Int32} {t2 : Int32} {t3 : Int32} {t0 : Nat} {o_t0 : Option Nat} {M : z_Mem} {r : q_R} (h0_t0 : 41 ≤ t0) (h1_t0 : t0 < 107) (ho_t0 : o_t0 = some (n + t0)) (S : y_S n M) (R : q_rep n M r) (H : P_X12_harms_129 (n + 40) Q x1 o_t0 t1 t2 t3 M) (K : ∀ M1 r1, Q M1 → y_S n M1 → q_rep n M1 r1 → qF_harms_129 x1 t0 t1 t2 t3 r = r1 → X) : X := by
  subst ho_t0
  have hF := qE_harms_129 x1 t0 t1 t2 t3 r
  unfold P_X12_harms_129 at H
  refine qX_max S R H (fun x_1 M_1 r_M_1 H S_M_1 R_M_1 u => ?_)
  replace hF := hF.trans (q_ste2 u)
  replace H := z_nne rfl H
  replace H := H.2
  obtain ⟨M_4, e_M_4, H⟩ := q_all H
  have S_M_4 : y_S n M_4 := by rw [e_M_4]; exact S_sai S_M_1
  have R_M_4 := rep_sai R_M_1 h0_t0 h1_t0 e_M_4
  obtain ⟨r_M_4, h_M_4⟩ := q_gen R_M_4
  replace hF := hF.trans (q_ste h_M_4.2)
  replace R_M_4 := h_M_4.1
  replace H := z_nne (s_1607_40 S_M_4) H
  replace H := H.2
  replace H := z_nne (s_1608_40 S_M_4) H
  replace H := H.2
  try simp only [qa_84 R_M_4] at H
  obtain ⟨M_11, e_M_11, H⟩ := q_all H
  have S_M_11 : y_S n M_11 := by rw [e_M_11]; exact S_sai S_M_4
  have R_M_11 := rep_sai R_M_4 (by decide) (by decide) e_M_11
  obtain ⟨r_M_11, h_M_11⟩ := q_gen R_M_11
  replace hF := hF.trans (q_ste h_M_11.2)
  replace R_M_11 := h_M_11.1
  exact K _ _ H S_M_11 R_M_11 hF
set_option maxRecDepth 100000 in
set_option maxHeartbeats 4000000 in
theorem qX_harms_55 {n : Nat} {X : Prop} {Q : z_Mem → Prop} {x1 : Int32} {t1 : Int32} {t2 : Int32} {t0 : Nat} {o_t0 : Option Nat} {M : z_Mem} {r : q_R} (h0_t0 : 41 ≤ t0) (h1_t0 : t0 < 107) (ho_t0 : o_t0 = some (n + t0)) (S : y_S n M) (R : q_rep n M r) (H : P_X12_harms_55 (n + 40) Q x1 o_t0 t1 t2 M) (K : ∀ M1 r1, Q M1 → y_S n M1 → q_rep n M1 r1 → qF_harms_55 x1 t0 t1 t2 r = r1 → X) : X := by
  subst ho_t0
  have hF := qE_harms_55 x1 t0 t1 t2 r
  unfold P_X12_harms_55 at H
  replace H := z_nne rfl H
  replace H := H.2
  obtain ⟨M_14, e_M_14, H⟩ := q_all H
  have S_M_14 : y_S n M_14 := by rw [e_M_14]; exact S_sai S
  have R_M_14 := rep_sai R h0_t0 h1_t0 e_M_14
  obtain ⟨r_M_14, h_M_14⟩ := q_gen R_M_14
  replace hF := hF.trans (q_ste h_M_14.2)
  replace R_M_14 := h_M_14.1
  replace H := z_nne (s_1607_40 S_M_14) H
  replace H := H.2
  replace H := z_nne (s_1626_40 S_M_14) H
  replace H := H.2
  try simp only [qa_84 R_M_14] at H
  obtain ⟨M_21, e_M_21, H⟩ := q_all H
  have S_M_21 : y_S n M_21 := by rw [e_M_21]; exact S_sai S_M_14
  have R_M_21 := rep_sai R_M_14 (by decide) (by decide) e_M_21
  obtain ⟨r_M_21, h_M_21⟩ := q_gen R_M_21
  replace hF := hF.trans (q_ste h_M_21.2)
  replace R_M_21 := h_M_21.1
  replace H := z_nne (s_1608_40 S_M_21) H
  replace H := H.2
  replace H := z_nne (s_1627_40 S_M_21) H
  replace H := H.2
  try simp only [qa_85 R_M_21] at H
  obtain ⟨M_28, e_M_28, H⟩ := q_all H
  have S_M_28 : y_S n M_28 := by rw [e_M_28]; exact S_sai S_M_21
  have R_M_28 := rep_sai R_M_21 (by decide) (by decide) e_M_28
  obtain ⟨r_M_28, h_M_28⟩ := q_gen R_M_28
  replace hF := hF.trans (q_ste h_M_28.2)
  replace R_M_28 := h_M_28.1
  replace H := z_nne (s_1609_40 S_M_28) H
  replace H := H.2
  try simp only [qa_86 R_M_28] at H
  rcases q_em H with ⟨c1, H⟩ | ⟨c1, H⟩
  · skip
    replace hF := hF.trans (if_pos c1)
    exact K _ _ H S_M_28 R_M_28 hF
  · skip
    replace hF := hF.trans (if_neg c1)
    replace H := z_nne (s_1609_40 S_M_28) H
    replace H := H.2
    try simp only [qa_86 R_M_28] at H
    rcases q_em H with ⟨c2, H⟩ | ⟨c2, H⟩
    · skip
      replace hF := hF.trans (if_pos c2)
      replace H := z_nne (s_1607_40 S_M_28) H
      replace H := H.2
      try simp only [qa_84 R_M_28] at H
      exact qX_harms_129 (by decide) (by decide) (s_1607_40 S_M_28) S_M_28 R_M_28 H (fun M1 r1 q1 q2 q3 u => K M1 r1 q1 q2 q3 (hF.trans u))
    · skip
      replace hF := hF.trans (if_neg c2)
      replace H := z_nne (s_1607_40 S_M_28) H
      replace H := H.2
      try simp only [qa_84 R_M_28] at H
      exact qX_harms_129 (by decide) (by decide) (s_1607_40 S_M_28) S_M_28 R_M_28 H (fun M1 r1 q1 q2 q3 u => K M1 r1 q1 q2 q3 (hF.trans u))
set_option maxRecDepth 100000 in
set_option maxHeartbeats 4000000 in
theorem qX_harms {n : Nat} {X : Prop} {Q : z_Mem → Prop} {p1 : Int32} {p2 : Int32} {p3 : Int32} {M : z_Mem} {r : q_R} (S : y_S n M) (R : q_rep n M r) (H : P_X12_harms (n + 40) p1 p2 p3 M Q) (K : ∀ M1 r1, Q M1 → y_S n M1 → q_rep n M1 r1 → qF_harms p1 p2 p3 r = r1 → X) : X := by
  have hF := qE_harms p1 p2 p3 r
  unfold P_X12_harms at H
  replace H := z_nne (s_1623_40 S) H
  replace H := H.2
  try simp only [qa_100 R] at H
  rcases q_em H with ⟨c1, H⟩ | ⟨c1, H⟩
  · skip
    replace hF := hF.trans (if_pos c1)
    replace H := z_nne (s_1629_40 S) H
    replace H := H.2
    replace H := H.2
    try simp only [qa_106 R] at H
    obtain ⟨M_52, e_M_52, H⟩ := q_all H
    have S_M_52 : y_S n M_52 := by rw [e_M_52]; exact S_sai S
    have R_M_52 := rep_sai R (by decide) (by decide) e_M_52
    obtain ⟨r_M_52, h_M_52⟩ := q_gen R_M_52
    replace hF := hF.trans (q_ste h_M_52.2)
    replace R_M_52 := h_M_52.1
    replace H := z_nne (s_1623_40 S_M_52) H
    replace H := H.2
    try simp only [qf_1606 R_M_52] at H
    obtain ⟨M_57, e_M_57, H⟩ := q_all H
    have S_M_57 : y_S n M_57 := by rw [e_M_57]; exact S_sai S_M_52
    have R_M_57 := rep_sai R_M_52 (by decide) (by decide) e_M_57
    obtain ⟨r_M_57, h_M_57⟩ := q_gen R_M_57
    replace hF := hF.trans (q_ste h_M_57.2)
    replace R_M_57 := h_M_57.1
    replace H := z_nne (s_1624_40 S_M_57) H
    replace H := H.2
    try simp only [qf_1536 R_M_57] at H
    obtain ⟨M_62, e_M_62, H⟩ := q_all H
    have S_M_62 : y_S n M_62 := by rw [e_M_62]; exact S_sai S_M_57
    have R_M_62 := rep_sai R_M_57 (by decide) (by decide) e_M_62
    obtain ⟨r_M_62, h_M_62⟩ := q_gen R_M_62
    replace hF := hF.trans (q_ste h_M_62.2)
    replace R_M_62 := h_M_62.1
    rcases q_em H with ⟨c2, H⟩ | ⟨c2, H⟩
    · skip
      replace hF := hF.trans (if_pos c2)
      exact qX_harms_55 (by decide) (by decide) (s_1625_40 S_M_62) S_M_62 R_M_62 H (fun M1 r1 q1 q2 q3 u => K M1 r1 q1 q2 q3 (hF.trans u))
    · skip
      replace hF := hF.trans (if_neg c2)
      exact qX_harms_55 (by decide) (by decide) (s_1625_40 S_M_62) S_M_62 R_M_62 H (fun M1 r1 q1 q2 q3 u => K M1 r1 q1 q2 q3 (hF.trans u))
  · skip
    replace hF := hF.trans (if_neg c1)
    exact K _ _ H S R hF
set_option maxRecDepth 100000 in
set_option maxHeartbeats 4000000 in
theorem qX_lands_9 {n : Nat} {X : Prop} {Q : z_Mem → Prop} : ∀ (m : Nat) {x1 : Int32} {x3 : Int32} {M : z_Mem} {r : q_R} (S : y_S n M) (R : q_rep n M r) (H : P_X12_lands_9 (n + 40) Q m x1 x3 M) (K : ∀ M1 r1, Q M1 → y_S n M1 → q_rep n M1 r1 → qF_lands_9 x1 x3 r = r1 → X), X := by
  intro m
  induction m with
  | zero => intros; rename_i H _; exact False.elim H
  | succ m ih =>
    intro x1 x3 M r S R H K
    have hF := qE_lands_9 x1 x3 r
    unfold P_X12_lands_9 at H
    replace H := z_nne (s_1597_40 S) H
    replace H := H.2
    try simp only [qa_75 R] at H
    rcases q_em H with ⟨c1, H⟩ | ⟨c1, H⟩
    · skip
      replace hF := hF.trans (if_pos c1)
      exact K _ _ H S R (qUr_lands_9 hF)
    · skip
      replace hF := hF.trans (if_neg c1)
      replace H := z_nne (s_1595_40 S) H
      replace H := H.2
      replace H := z_nne (s_1596_40 S) H
      replace H := H.2
      replace H := z_nne (s_1592_40 S) H
      replace H := H.2
      replace H := H.2
      try simp only [qa_70 R, qa_73 R, qa_74 R] at H
      obtain ⟨M_15, e_M_15, H⟩ := q_all H
      have S_M_15 : y_S n M_15 := by rw [e_M_15]; exact S_sai S
      have R_M_15 := rep_sai R (by decide) (by decide) e_M_15
      obtain ⟨r_M_15, h_M_15⟩ := q_gen R_M_15
      replace hF := hF.trans (q_ste h_M_15.2)
      replace R_M_15 := h_M_15.1
      obtain ⟨x_16, e_x_16, H⟩ := q_all H
      replace hF := hF.trans (q_ste e_x_16)
      replace hF := qUl_lands_9 hF
      exact ih S_M_15 R_M_15 H (fun M1 r1 q1 q2 q3 u => K M1 r1 q1 q2 q3 (hF.trans u))
set_option maxRecDepth 100000 in
set_option maxHeartbeats 4000000 in
theorem qX_lands {n : Nat} {X : Prop} {Q : z_Mem → Prop} {p1 : Int32} {p2 : Int32} {M : z_Mem} {r : q_R} (S : y_S n M) (R : q_rep n M r) (H : P_X12_lands (n + 40) p1 p2 M Q) (K : ∀ M1 r1, Q M1 → y_S n M1 → q_rep n M1 r1 → qF_lands p1 p2 r = r1 → X) : X := by
  have hF := qE_lands p1 p2 r
  unfold P_X12_lands at H
  replace H := z_nne (s_1598_40 S) H
  replace H := H.2
  obtain ⟨M_20, e_M_20, H⟩ := q_all H
  have S_M_20 : y_S n M_20 := by rw [e_M_20]; exact S_sai S
  have R_M_20 := rep_sai R (by decide) (by decide) e_M_20
  obtain ⟨r_M_20, h_M_20⟩ := q_gen R_M_20
  replace hF := hF.trans (q_ste h_M_20.2)
  replace R_M_20 := h_M_20.1
  obtain ⟨m, H⟩ := H
  exact qX_lands_9 m S_M_20 R_M_20 H (fun M1 r1 q1 q2 q3 u => K M1 r1 q1 q2 q3 (hF.trans u))
set_option maxRecDepth 100000 in
set_option maxHeartbeats 4000000 in
theorem qX_loses {n : Nat} {X : Prop} {Q : z_Mem → Prop} {p1 : Int32} {M : z_Mem} {r : q_R} (S : y_S n M) (R : q_rep n M r) (H : P_X12_loses (n + 40) p1 M Q) (K : ∀ M1 r1, Q M1 → y_S n M1 → q_rep n M1 r1 → qF_loses p1 r = r1 → X) : X := by
  have hF := qE_loses p1 r
  unfold P_X12_loses at H
  refine qX_lands S R H (fun M_1 r_M_1 H S_M_1 R_M_1 u => ?_)
  replace hF := hF.trans (q_ste u.symm)
  replace H := z_nne (s_1629_40 S_M_1) H
  replace H := H.2
  replace H := H.2
  try simp only [qa_106 R_M_1] at H
  obtain ⟨M_6, e_M_6, H⟩ := q_all H
  have S_M_6 : y_S n M_6 := by rw [e_M_6]; exact S_sai S_M_1
  have R_M_6 := rep_sai R_M_1 (by decide) (by decide) e_M_6
  obtain ⟨r_M_6, h_M_6⟩ := q_gen R_M_6
  replace hF := hF.trans (q_ste h_M_6.2)
  replace R_M_6 := h_M_6.1
  replace H := z_nne (s_1593_40 S_M_6) H
  replace H := H.2
  try simp only [qa_71 R_M_6] at H
  refine qX_harms S_M_6 R_M_6 H (fun M_10 r_M_10 H S_M_10 R_M_10 u => ?_)
  replace hF := hF.trans (q_ste u.symm)
  exact K _ _ H S_M_10 R_M_10 hF
set_option maxRecDepth 100000 in
set_option maxHeartbeats 4000000 in
theorem qX_losesByOrder_51 {n : Nat} {X : Prop} {Q : z_Mem → Prop} {QJ2 : Int32 → Int32 → z_Mem → Prop} {x1 : Int32} {x2 : Int32} {M : z_Mem} {r : q_R} (S : y_S n M) (R : q_rep n M r) (H : P_X12_losesByOrder_51 (n + 40) Q QJ2 x1 x2 M) (K : ∀ M1 r1, Q M1 → y_S n M1 → q_rep n M1 r1 → qF_losesByOrder_51 x1 x2 r = (.inr r1) → X) (KJ2 : ∀ v0 v1 M1 r1, QJ2 v0 v1 M1 → y_S n M1 → q_rep n M1 r1 → qF_losesByOrder_51 x1 x2 r = (.inl (v0, v1, r1)) → X) : X := by
  have hF := qE_losesByOrder_51 x1 x2 r
  unfold P_X12_losesByOrder_51 at H
  obtain ⟨x_1, e_x_1, H⟩ := q_all H
  replace hF := hF.trans (q_ste e_x_1)
  exact KJ2 _ _ _ _ H S R hF
set_option maxRecDepth 100000 in
set_option maxHeartbeats 4000000 in
theorem qX_losesByOrder_2 {n : Nat} {X : Prop} {Q : z_Mem → Prop} : ∀ (m : Nat) {x1 : Int32} {x2 : Int32} {M : z_Mem} {r : q_R} (S : y_S n M) (R : q_rep n M r) (H : P_X12_losesByOrder_2 (n + 40) Q m x1 x2 M) (K : ∀ M1 r1, Q M1 → y_S n M1 → q_rep n M1 r1 → qF_losesByOrder_2 x1 x2 r = r1 → X), X := by
  intro m
  induction m with
  | zero => intros; rename_i H _; exact False.elim H
  | succ m ih =>
    intro x1 x2 M r S R H K
    have hF := qE_losesByOrder_2 x1 x2 r
    unfold P_X12_losesByOrder_2 at H
    try simp only [qf_1606 R] at H
    rcases q_em H with ⟨c1, H⟩ | ⟨c1, H⟩
    · skip
      replace hF := hF.trans (if_pos c1)
      exact K _ _ H S R (qUr_losesByOrder_2 hF)
    · skip
      replace hF := hF.trans (if_neg c1)
      replace H := z_nne (s_1593_40 S) H
      replace H := H.2
      try simp only [qa_71 R] at H
      rcases q_em H with ⟨c2, H⟩ | ⟨c2, H⟩
      · skip
        replace hF := hF.trans (if_pos c2)
        replace H := z_nne (s_1598_40 S) H
        replace H := H.2
        try simp only [qa_76 R] at H
        rcases q_em H with ⟨c3, H⟩ | ⟨c3, H⟩
        · skip
          replace hF := hF.trans (if_pos c3)
          replace H := z_nne (s_1617_40 S) H
          replace H := H.2
          replace H := z_nne (s_1604_40 S) H
          replace H := H.2
          try simp only [qa_82 R, qa_94 R] at H
          rcases q_em H with ⟨c4, H⟩ | ⟨c4, H⟩
          · skip
            replace hF := hF.trans (if_pos c4)
            exact qX_losesByOrder_51 S R H (fun M1 r1 q1 q2 q3 u => K M1 r1 q1 q2 q3 (qUr_losesByOrder_2 (hF.trans u))) (fun v0 v1 M1 r1 q1 q2 q3 u => ih q2 q3 q1 (fun M1 r1 q1 q2 q3 u2 => K M1 r1 q1 q2 q3 ((qUl_losesByOrder_2 (hF.trans u)).trans u2))) 
          · skip
            replace hF := hF.trans (if_neg c4)
            refine qX_loses S R H (fun M_19 r_M_19 H S_M_19 R_M_19 u => ?_)
            replace hF := hF.trans (q_ste u.symm)
            exact qX_losesByOrder_51 S_M_19 R_M_19 H (fun M1 r1 q1 q2 q3 u => K M1 r1 q1 q2 q3 (qUr_losesByOrder_2 (hF.trans u))) (fun v0 v1 M1 r1 q1 q2 q3 u => ih q2 q3 q1 (fun M1 r1 q1 q2 q3 u2 => K M1 r1 q1 q2 q3 ((qUl_losesByOrder_2 (hF.trans u)).trans u2))) 
        · skip
          replace hF := hF.trans (if_neg c3)
          exact qX_losesByOrder_51 S R H (fun M1 r1 q1 q2 q3 u => K M1 r1 q1 q2 q3 (qUr_losesByOrder_2 (hF.trans u))) (fun v0 v1 M1 r1 q1 q2 q3 u => ih q2 q3 q1 (fun M1 r1 q1 q2 q3 u2 => K M1 r1 q1 q2 q3 ((qUl_losesByOrder_2 (hF.trans u)).trans u2))) 
      · skip
        replace hF := hF.trans (if_neg c2)
        exact qX_losesByOrder_51 S R H (fun M1 r1 q1 q2 q3 u => K M1 r1 q1 q2 q3 (qUr_losesByOrder_2 (hF.trans u))) (fun v0 v1 M1 r1 q1 q2 q3 u => ih q2 q3 q1 (fun M1 r1 q1 q2 q3 u2 => K M1 r1 q1 q2 q3 ((qUl_losesByOrder_2 (hF.trans u)).trans u2))) 
set_option maxRecDepth 100000 in
set_option maxHeartbeats 4000000 in
theorem qX_losesByOrder {n : Nat} {X : Prop} {Q : z_Mem → Prop} {p1 : Int32} {M : z_Mem} {r : q_R} (S : y_S n M) (R : q_rep n M r) (H : P_X12_losesByOrder (n + 40) p1 M Q) (K : ∀ M1 r1, Q M1 → y_S n M1 → q_rep n M1 r1 → qF_losesByOrder p1 r = r1 → X) : X := by
  have hF := qE_losesByOrder p1 r
  unfold P_X12_losesByOrder at H
  obtain ⟨m, H⟩ := H
  exact qX_losesByOrder_2 m S R H (fun M1 r1 q1 q2 q3 u => K M1 r1 q1 q2 q3 (hF.trans u))
set_option maxRecDepth 100000 in
set_option maxHeartbeats 4000000 in
theorem qX_losesByTime_93 {n : Nat} {X : Prop} {Q : z_Mem → Prop} {QJ2 : Int32 → Int32 → z_Mem → Prop} {x1 : Int32} {x2 : Int32} {M : z_Mem} {r : q_R} (S : y_S n M) (R : q_rep n M r) (H : P_X12_losesByTime_93 (n + 40) Q QJ2 x1 x2 M) (K : ∀ M1 r1, Q M1 → y_S n M1 → q_rep n M1 r1 → qF_losesByTime_93 x1 x2 r = (.inr r1) → X) (KJ2 : ∀ v0 v1 M1 r1, QJ2 v0 v1 M1 → y_S n M1 → q_rep n M1 r1 → qF_losesByTime_93 x1 x2 r = (.inl (v0, v1, r1)) → X) : X := by
  have hF := qE_losesByTime_93 x1 x2 r
  unfold P_X12_losesByTime_93 at H
  obtain ⟨x_1, e_x_1, H⟩ := q_all H
  replace hF := hF.trans (q_ste e_x_1)
  exact KJ2 _ _ _ _ H S R hF
set_option maxRecDepth 100000 in
set_option maxHeartbeats 4000000 in
theorem qX_losesByTime_2 {n : Nat} {X : Prop} {Q : z_Mem → Prop} : ∀ (m : Nat) {x1 : Int32} {x2 : Int32} {M : z_Mem} {r : q_R} (S : y_S n M) (R : q_rep n M r) (H : P_X12_losesByTime_2 (n + 40) Q m x1 x2 M) (K : ∀ M1 r1, Q M1 → y_S n M1 → q_rep n M1 r1 → qF_losesByTime_2 x1 x2 r = r1 → X), X := by
  intro m
  induction m with
  | zero => intros; rename_i H _; exact False.elim H
  | succ m ih =>
    intro x1 x2 M r S R H K
    have hF := qE_losesByTime_2 x1 x2 r
    unfold P_X12_losesByTime_2 at H
    try simp only [qf_1606 R] at H
    rcases q_em H with ⟨c1, H⟩ | ⟨c1, H⟩
    · skip
      replace hF := hF.trans (if_pos c1)
      exact K _ _ H S R (qUr_losesByTime_2 hF)
    · skip
      replace hF := hF.trans (if_neg c1)
      replace H := z_nne (s_1610_40 S) H
      replace H := H.2
      replace H := z_nne (s_1613_40 S) H
      replace H := H.2
      try simp only [qa_87 R, qa_90 R] at H
      refine qX_max S R H (fun x_10 M_10 r_M_10 H S_M_10 R_M_10 u => ?_)
      replace hF := hF.trans (q_ste2 u)
      refine qX_max S_M_10 R_M_10 H (fun x_11 M_11 r_M_11 H S_M_11 R_M_11 u => ?_)
      replace hF := hF.trans (q_ste2 u)
      replace H := z_nne (s_1593_40 S_M_11) H
      replace H := H.2
      try simp only [qa_71 R_M_11] at H
      rcases q_em H with ⟨c2, H⟩ | ⟨c2, H⟩
      · skip
        replace hF := hF.trans (if_pos c2)
        replace H := z_nne (s_1598_40 S_M_11) H
        replace H := H.2
        try simp only [qa_76 R_M_11] at H
        rcases q_em H with ⟨c3, H⟩ | ⟨c3, H⟩
        · skip
          replace hF := hF.trans (if_pos c3)
          replace H := z_nne (s_1617_40 S_M_11) H
          replace H := H.2
          replace H := z_nne (s_1604_40 S_M_11) H
          replace H := H.2
          try simp only [qa_82 R_M_11, qa_94 R_M_11] at H
          rcases q_em H with ⟨c4, H⟩ | ⟨c4, H⟩
          · skip
            replace hF := hF.trans (if_pos c4)
            exact qX_losesByTime_93 S_M_11 R_M_11 H (fun M1 r1 q1 q2 q3 u => K M1 r1 q1 q2 q3 (qUr_losesByTime_2 (hF.trans u))) (fun v0 v1 M1 r1 q1 q2 q3 u => ih q2 q3 q1 (fun M1 r1 q1 q2 q3 u2 => K M1 r1 q1 q2 q3 ((qUl_losesByTime_2 (hF.trans u)).trans u2))) 
          · skip
            replace hF := hF.trans (if_neg c4)
            replace H := z_nne (s_1594_40 S_M_11) H
            replace H := H.2
            try simp only [qa_72 R_M_11, qf_1536 R_M_11] at H
            rcases q_em H with ⟨c5, H⟩ | ⟨c5, H⟩
            · skip
              replace hF := hF.trans (if_pos c5)
              exact qX_losesByTime_93 S_M_11 R_M_11 H (fun M1 r1 q1 q2 q3 u => K M1 r1 q1 q2 q3 (qUr_losesByTime_2 (hF.trans u))) (fun v0 v1 M1 r1 q1 q2 q3 u => ih q2 q3 q1 (fun M1 r1 q1 q2 q3 u2 => K M1 r1 q1 q2 q3 ((qUl_losesByTime_2 (hF.trans u)).trans u2))) 
            · skip
              replace hF := hF.trans (if_neg c5)
              refine qX_loses S_M_11 R_M_11 H (fun M_32 r_M_32 H S_M_32 R_M_32 u => ?_)
              replace hF := hF.trans (q_ste u.symm)
              exact qX_losesByTime_93 S_M_32 R_M_32 H (fun M1 r1 q1 q2 q3 u => K M1 r1 q1 q2 q3 (qUr_losesByTime_2 (hF.trans u))) (fun v0 v1 M1 r1 q1 q2 q3 u => ih q2 q3 q1 (fun M1 r1 q1 q2 q3 u2 => K M1 r1 q1 q2 q3 ((qUl_losesByTime_2 (hF.trans u)).trans u2))) 
        · skip
          replace hF := hF.trans (if_neg c3)
          exact qX_losesByTime_93 S_M_11 R_M_11 H (fun M1 r1 q1 q2 q3 u => K M1 r1 q1 q2 q3 (qUr_losesByTime_2 (hF.trans u))) (fun v0 v1 M1 r1 q1 q2 q3 u => ih q2 q3 q1 (fun M1 r1 q1 q2 q3 u2 => K M1 r1 q1 q2 q3 ((qUl_losesByTime_2 (hF.trans u)).trans u2))) 
      · skip
        replace hF := hF.trans (if_neg c2)
        exact qX_losesByTime_93 S_M_11 R_M_11 H (fun M1 r1 q1 q2 q3 u => K M1 r1 q1 q2 q3 (qUr_losesByTime_2 (hF.trans u))) (fun v0 v1 M1 r1 q1 q2 q3 u => ih q2 q3 q1 (fun M1 r1 q1 q2 q3 u2 => K M1 r1 q1 q2 q3 ((qUl_losesByTime_2 (hF.trans u)).trans u2))) 
set_option maxRecDepth 100000 in
set_option maxHeartbeats 4000000 in
theorem qX_losesByTime {n : Nat} {X : Prop} {Q : z_Mem → Prop} {p1 : Int32} {M : z_Mem} {r : q_R} (S : y_S n M) (R : q_rep n M r) (H : P_X12_losesByTime (n + 40) p1 M Q) (K : ∀ M1 r1, Q M1 → y_S n M1 → q_rep n M1 r1 → qF_losesByTime p1 r = r1 → X) : X := by
  have hF := qE_losesByTime p1 r
  unfold P_X12_losesByTime at H
  obtain ⟨m, H⟩ := H
  exact qX_losesByTime_2 m S R H (fun M1 r1 q1 q2 q3 u => K M1 r1 q1 q2 q3 (hF.trans u))
set_option maxRecDepth 100000 in
set_option maxHeartbeats 4000000 in
theorem qX_hearsOf_50 {n : Nat} {X : Prop} {Q : z_Mem → Prop} : ∀ (m : Nat) {x1 : Int32} {x2 : Int32} {x3 : Int32} {M : z_Mem} {r : q_R} (S : y_S n M) (R : q_rep n M r) (H : P_X12_hearsOf_50 (n + 40) Q m x1 x2 x3 M) (K : ∀ M1 r1, Q M1 → y_S n M1 → q_rep n M1 r1 → qF_hearsOf_50 x1 x2 x3 r = r1 → X), X := by
  intro m
  induction m with
  | zero => intros; rename_i H _; exact False.elim H
  | succ m ih =>
    intro x1 x2 x3 M r S R H K
    have hF := qE_hearsOf_50 x1 x2 x3 r
    unfold P_X12_hearsOf_50 at H
    replace H := z_nne (s_1597_40 S) H
    replace H := H.2
    try simp only [qa_75 R] at H
    rcases q_em H with ⟨c1, H⟩ | ⟨c1, H⟩
    · skip
      replace hF := hF.trans (if_pos c1)
      replace H := z_nne (s_1598_40 S) H
      replace H := H.2
      try simp only [qa_76 R] at H
      rcases q_em H with ⟨c2, H⟩ | ⟨c2, H⟩
      · skip
        replace hF := hF.trans (if_pos c2)
        refine qX_lands S R H (fun M_48 r_M_48 H S_M_48 R_M_48 u => ?_)
        replace hF := hF.trans (q_ste u.symm)
        refine qX_grows S_M_48 R_M_48 H (fun M_49 r_M_49 H S_M_49 R_M_49 u => ?_)
        replace hF := hF.trans (q_ste u.symm)
        exact K _ _ H S_M_49 R_M_49 (qUr_hearsOf_50 hF)
      · skip
        replace hF := hF.trans (if_neg c2)
        replace H := z_nne (s_1598_40 S) H
        replace H := H.2
        obtain ⟨M_12, e_M_12, H⟩ := q_all H
        have S_M_12 : y_S n M_12 := by rw [e_M_12]; exact S_sai S
        have R_M_12 := rep_sai R (by decide) (by decide) e_M_12
        obtain ⟨r_M_12, h_M_12⟩ := q_gen R_M_12
        replace hF := hF.trans (q_ste h_M_12.2)
        replace R_M_12 := h_M_12.1
        replace H := z_nne (s_1629_40 S_M_12) H
        replace H := H.2
        replace H := H.2
        try simp only [qa_106 R_M_12] at H
        obtain ⟨M_17, e_M_17, H⟩ := q_all H
        have S_M_17 : y_S n M_17 := by rw [e_M_17]; exact S_sai S_M_12
        have R_M_17 := rep_sai R_M_12 (by decide) (by decide) e_M_17
        obtain ⟨r_M_17, h_M_17⟩ := q_gen R_M_17
        replace hF := hF.trans (q_ste h_M_17.2)
        replace R_M_17 := h_M_17.1
        replace H := z_nne (s_1625_40 S_M_17) H
        replace H := H.2
        try simp only [qa_102 R_M_17] at H
        rcases q_em H with ⟨c3, H⟩ | ⟨c3, H⟩
        · skip
          replace hF := hF.trans (if_pos c3)
          replace H := z_nne (s_1625_40 S_M_17) H
          replace H := H.2
          obtain ⟨M_25, e_M_25, H⟩ := q_all H
          have S_M_25 : y_S n M_25 := by rw [e_M_25]; exact S_sai S_M_17
          have R_M_25 := rep_sai R_M_17 (by decide) (by decide) e_M_25
          obtain ⟨r_M_25, h_M_25⟩ := q_gen R_M_25
          replace hF := hF.trans (q_ste h_M_25.2)
          replace R_M_25 := h_M_25.1
          replace H := z_nne (s_1607_40 S_M_25) H
          replace H := H.2
          replace H := z_nne (s_1626_40 S_M_25) H
          replace H := H.2
          try simp only [qa_84 R_M_25, qa_103 R_M_25] at H
          refine qX_max S_M_25 R_M_25 H (fun x_33 M_33 r_M_33 H S_M_33 R_M_33 u => ?_)
          replace hF := hF.trans (q_ste2 u)
          replace H := z_nne (s_1607_40 S_M_25) H
          replace H := H.2
          obtain ⟨M_36, e_M_36, H⟩ := q_all H
          have S_M_36 : y_S n M_36 := by rw [e_M_36]; exact S_sai S_M_33
          have R_M_36 := rep_sai R_M_33 (by decide) (by decide) e_M_36
          obtain ⟨r_M_36, h_M_36⟩ := q_gen R_M_36
          replace hF := hF.trans (q_ste h_M_36.2)
          replace R_M_36 := h_M_36.1
          replace H := z_nne (s_1608_40 S_M_36) H
          replace H := H.2
          replace H := z_nne (s_1627_40 S_M_36) H
          replace H := H.2
          try simp only [qa_85 R_M_36, qa_104 R_M_36] at H
          refine qX_max S_M_36 R_M_36 H (fun x_44 M_44 r_M_44 H S_M_44 R_M_44 u => ?_)
          replace hF := hF.trans (q_ste2 u)
          replace H := z_nne (s_1608_40 S_M_36) H
          replace H := H.2
          obtain ⟨M_47, e_M_47, H⟩ := q_all H
          have S_M_47 : y_S n M_47 := by rw [e_M_47]; exact S_sai S_M_44
          have R_M_47 := rep_sai R_M_44 (by decide) (by decide) e_M_47
          obtain ⟨r_M_47, h_M_47⟩ := q_gen R_M_47
          replace hF := hF.trans (q_ste h_M_47.2)
          replace R_M_47 := h_M_47.1
          exact K _ _ H S_M_47 R_M_47 (qUr_hearsOf_50 hF)
        · skip
          replace hF := hF.trans (if_neg c3)
          exact K _ _ H S_M_17 R_M_17 (qUr_hearsOf_50 hF)
    · skip
      replace hF := hF.trans (if_neg c1)
      replace H := z_nne (s_1595_40 S) H
      replace H := H.2
      replace H := z_nne (s_1596_40 S) H
      replace H := H.2
      replace H := z_nne (s_1591_40 S) H
      replace H := H.2
      try simp only [qa_73 R, qa_74 R] at H
      obtain ⟨M_59, e_M_59, H⟩ := q_all H
      have S_M_59 : y_S n M_59 := by rw [e_M_59]; exact S_sai S
      have R_M_59 := rep_sai R (by decide) (by decide) e_M_59
      obtain ⟨r_M_59, h_M_59⟩ := q_gen R_M_59
      replace hF := hF.trans (q_ste h_M_59.2)
      replace R_M_59 := h_M_59.1
      obtain ⟨x_60, e_x_60, H⟩ := q_all H
      replace hF := hF.trans (q_ste e_x_60)
      replace hF := qUl_hearsOf_50 hF
      exact ih S_M_59 R_M_59 H (fun M1 r1 q1 q2 q3 u => K M1 r1 q1 q2 q3 (hF.trans u))
set_option maxRecDepth 100000 in
set_option maxHeartbeats 4000000 in
theorem qX_hearsOf_27 {n : Nat} {X : Prop} {Q : z_Mem → Prop} {x1 : Int32} {x2 : Int32} {M : z_Mem} {r : q_R} (S : y_S n M) (R : q_rep n M r) (H : P_X12_hearsOf_27 (n + 40) Q x1 x2 M) (K : ∀ M1 r1, Q M1 → y_S n M1 → q_rep n M1 r1 → qF_hearsOf_27 x1 x2 r = r1 → X) : X := by
  have hF := qE_hearsOf_27 x1 x2 r
  unfold P_X12_hearsOf_27 at H
  replace H := z_nne (s_1617_40 S) H
  replace H := H.2
  replace H := z_nne (s_1604_40 S) H
  replace H := H.2
  try simp only [qa_94 R, qa_82 R] at H
  refine qX_max S R H (fun x_68 M_68 r_M_68 H S_M_68 R_M_68 u => ?_)
  replace hF := hF.trans (q_ste2 u)
  replace H := z_nne (s_1617_40 S) H
  replace H := H.2
  obtain ⟨M_71, e_M_71, H⟩ := q_all H
  have S_M_71 : y_S n M_71 := by rw [e_M_71]; exact S_sai S_M_68
  have R_M_71 := rep_sai R_M_68 (by decide) (by decide) e_M_71
  obtain ⟨r_M_71, h_M_71⟩ := q_gen R_M_71
  replace hF := hF.trans (q_ste h_M_71.2)
  replace R_M_71 := h_M_71.1
  obtain ⟨m, H⟩ := H
  exact qX_hearsOf_50 m S_M_71 R_M_71 H (fun M1 r1 q1 q2 q3 u => K M1 r1 q1 q2 q3 (hF.trans u))
set_option maxRecDepth 100000 in
set_option maxHeartbeats 4000000 in
theorem qX_hearsOf {n : Nat} {X : Prop} {Q : z_Mem → Prop} {p1 : Int32} {M : z_Mem} {r : q_R} (S : y_S n M) (R : q_rep n M r) (H : P_X12_hearsOf (n + 40) p1 M Q) (K : ∀ M1 r1, Q M1 → y_S n M1 → q_rep n M1 r1 → qF_hearsOf p1 r = r1 → X) : X := by
  have hF := qE_hearsOf p1 r
  unfold P_X12_hearsOf at H
  replace H := z_nne (s_1593_40 S) H
  replace H := H.2
  try simp only [qa_71 R] at H
  obtain ⟨x_76, e_x_76, H⟩ := q_all H
  replace hF := hF.trans (q_ste e_x_76)
  replace H := z_nne (s_1598_40 S) H
  replace H := H.2
  try simp only [qa_76 R] at H
  rcases q_em H with ⟨c1, H⟩ | ⟨c1, H⟩
  · skip
    replace hF := hF.trans (if_pos c1)
    exact qX_hearsOf_27 S R H (fun M1 r1 q1 q2 q3 u => K M1 r1 q1 q2 q3 (hF.trans u))
  · skip
    replace hF := hF.trans (if_neg c1)
    replace H := z_nne (s_1598_40 S) H
    replace H := H.2
    try simp only [qa_76 R] at H
    rcases q_em H with ⟨c2, H⟩ | ⟨c2, H⟩
    · skip
      replace hF := hF.trans (if_pos c2)
      exact qX_hearsOf_27 S R H (fun M1 r1 q1 q2 q3 u => K M1 r1 q1 q2 q3 (hF.trans u))
    · skip
      replace hF := hF.trans (if_neg c2)
      exact K _ _ H S R hF
set_option maxRecDepth 100000 in
set_option maxHeartbeats 4000000 in
theorem qX_hearsAck_78 {n : Nat} {X : Prop} {Q : z_Mem → Prop} {QJ58 : Int32 → Int32 → Int32 → Int32 → z_Mem → Prop} : ∀ (m : Nat) {x2 : Int32} {x3 : Int32} {x4 : Int32} {x5 : Int32} {x6 : Int32} {M : z_Mem} {r : q_R} (S : y_S n M) (R : q_rep n M r) (H : P_X12_hearsAck_78 (n + 40) Q QJ58 m x2 x3 x4 x5 x6 M) (K : ∀ M1 r1, Q M1 → y_S n M1 → q_rep n M1 r1 → qF_hearsAck_78 x2 x3 x4 x5 x6 r = (.inr r1) → X) (KJ58 : ∀ v0 v1 v2 v3 M1 r1, QJ58 v0 v1 v2 v3 M1 → y_S n M1 → q_rep n M1 r1 → qF_hearsAck_78 x2 x3 x4 x5 x6 r = (.inl (v0, v1, v2, v3, r1)) → X), X := by
  intro m
  induction m with
  | zero => intros; rename_i H _ _; exact False.elim H
  | succ m ih =>
    intro x2 x3 x4 x5 x6 M r S R H K KJ58
    have hF := qE_hearsAck_78 x2 x3 x4 x5 x6 r
    unfold P_X12_hearsAck_78 at H
    replace H := z_nne (s_1560_40 S) H
    replace H := H.2
    try simp only [qa_61 R] at H
    rcases q_em H with ⟨c1, H⟩ | ⟨c1, H⟩
    · skip
      replace hF := hF.trans (if_pos c1)
      obtain ⟨x_5, e_x_5, H⟩ := q_all H
      replace hF := hF.trans (q_ste e_x_5)
      exact KJ58 _ _ _ _ _ _ H S R (qUr_hearsAck_78 hF)
    · skip
      replace hF := hF.trans (if_neg c1)
      refine qX_hearsOf S R H (fun M_6 r_M_6 H S_M_6 R_M_6 u => ?_)
      replace hF := hF.trans (q_ste u.symm)
      obtain ⟨x_7, e_x_7, H⟩ := q_all H
      replace hF := hF.trans (q_ste e_x_7)
      replace hF := qUl_hearsAck_78 hF
      exact ih S_M_6 R_M_6 H (fun M1 r1 q1 q2 q3 u => K M1 r1 q1 q2 q3 (hF.trans u)) (fun v0 v1 v2 v3 M1 r1 q1 q2 q3 u => KJ58 v0 v1 v2 v3 M1 r1 q1 q2 q3 (hF.trans u))
set_option maxRecDepth 100000 in
set_option maxHeartbeats 4000000 in
theorem qX_hearsAck_271 {n : Nat} {X : Prop} {Q : z_Mem → Prop} : ∀ (m : Nat) {x5 : Int32} {M : z_Mem} {r : q_R} (S : y_S n M) (R : q_rep n M r) (H : P_X12_hearsAck_271 (n + 40) Q m x5 M) (K : ∀ M1 r1, Q M1 → y_S n M1 → q_rep n M1 r1 → qF_hearsAck_271 x5 r = r1 → X), X := by
  intro m
  induction m with
  | zero => intros; rename_i H _; exact False.elim H
  | succ m ih =>
    intro x5 M r S R H K
    have hF := qE_hearsAck_271 x5 r
    unfold P_X12_hearsAck_271 at H
    rcases q_em H with ⟨c1, H⟩ | ⟨c1, H⟩
    · skip
      replace hF := hF.trans (if_pos c1)
      exact K _ _ H S R (qUr_hearsAck_271 hF)
    · skip
      replace hF := hF.trans (if_neg c1)
      refine qX_losesByOrder S R H (fun M_9 r_M_9 H S_M_9 R_M_9 u => ?_)
      replace hF := hF.trans (q_ste u.symm)
      refine qX_losesByTime S_M_9 R_M_9 H (fun M_10 r_M_10 H S_M_10 R_M_10 u => ?_)
      replace hF := hF.trans (q_ste u.symm)
      obtain ⟨x_11, e_x_11, H⟩ := q_all H
      replace hF := hF.trans (q_ste e_x_11)
      replace hF := qUl_hearsAck_271 hF
      exact ih S_M_10 R_M_10 H (fun M1 r1 q1 q2 q3 u => K M1 r1 q1 q2 q3 (hF.trans u))
