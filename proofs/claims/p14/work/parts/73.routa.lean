/-! ===== THE REFERENCE: what comes out, 1 ===== -/
theorem q_all {A : Type} {p : A → Prop} {e : A} (H : ∀ x, x = e → p x) : ∃ x, x = e ∧ p x := ⟨e, rfl, H e rfl⟩
theorem q_em {c A B : Prop} (H : (c → A) ∧ (¬ c → B)) : (c ∧ A) ∨ (¬ c ∧ B) := (Classical.em c).elim (fun h => Or.inl ⟨h, H.1 h⟩) (fun h => Or.inr ⟨h, H.2 h⟩)
set_option maxRecDepth 100000 in
set_option maxHeartbeats 4000000 in
theorem qX_in {n : Nat} {X : Prop} {Q : Int32 → z_Mem → Prop} {p1 : Int32} {p2 : Int32} {p3 : Int32} {M : z_Mem} {r : q_R} (S : y_S n M) (R : q_rep n M r) (H : P_X12_in p1 p2 p3 M Q) (K : ∀ x M1 r1, Q x M1 → y_S n M1 → q_rep n M1 r1 → qF_in p1 p2 p3 r = (x, r1) → X) : X := by
  have hF := qE_in p1 p2 p3 r
  unfold P_X12_in at H
  rcases q_em H with ⟨c1, H⟩ | ⟨c1, H⟩
  · skip
    replace hF := hF.trans (if_pos c1)
    exact K _ _ _ H S R hF
  · skip
    replace hF := hF.trans (if_neg c1)
    rcases q_em H with ⟨c2, H⟩ | ⟨c2, H⟩
    · skip
      replace hF := hF.trans (if_pos c2)
      exact K _ _ _ H S R hF
    · skip
      replace hF := hF.trans (if_neg c2)
      exact K _ _ _ H S R hF
set_option maxRecDepth 100000 in
set_option maxHeartbeats 4000000 in
theorem qX_goes {n : Nat} {X : Prop} {Q : Int32 → z_Mem → Prop} {p1 : Int32} {p2 : Int32} {p3 : Int32} {M : z_Mem} {r : q_R} (S : y_S n M) (R : q_rep n M r) (H : P_X12_goes (n + 40) p1 p2 p3 M Q) (K : ∀ x M1 r1, Q x M1 → y_S n M1 → q_rep n M1 r1 → qF_goes p1 p2 p3 r = (x, r1) → X) : X := by
  have hF := qE_goes p1 p2 p3 r
  unfold P_X12_goes at H
  rcases q_em H with ⟨c1, H⟩ | ⟨c1, H⟩
  · skip
    replace hF := hF.trans (if_pos c1)
    obtain ⟨M_13, e_M_13, H⟩ := q_all H
    have S_M_13 : y_S n M_13 := by rw [e_M_13]; exact S_sfi S
    have R_M_13 := rep_sfi R e_M_13
    obtain ⟨r_M_13, h_M_13⟩ := q_gen R_M_13
    replace hF := hF.trans (q_ste h_M_13.2)
    replace R_M_13 := h_M_13.1
    try simp only [qf_1630 R_M_13] at H
    rcases q_em H with ⟨c2, H⟩ | ⟨c2, H⟩
    · skip
      replace hF := hF.trans (if_pos c2)
      exact K _ _ _ H S_M_13 R_M_13 hF
    · skip
      replace hF := hF.trans (if_neg c2)
      exact K _ _ _ H S_M_13 R_M_13 hF
  · skip
    replace hF := hF.trans (if_neg c1)
    rcases q_em H with ⟨c3, H⟩ | ⟨c3, H⟩
    · skip
      replace hF := hF.trans (if_pos c3)
      obtain ⟨M_10, e_M_10, H⟩ := q_all H
      have S_M_10 : y_S n M_10 := by rw [e_M_10]; exact S_sfi S
      have R_M_10 := rep_sfi R e_M_10
      obtain ⟨r_M_10, h_M_10⟩ := q_gen R_M_10
      replace hF := hF.trans (q_ste h_M_10.2)
      replace R_M_10 := h_M_10.1
      try simp only [qf_1630 R_M_10] at H
      rcases q_em H with ⟨c4, H⟩ | ⟨c4, H⟩
      · skip
        replace hF := hF.trans (if_pos c4)
        exact K _ _ _ H S_M_10 R_M_10 hF
      · skip
        replace hF := hF.trans (if_neg c4)
        exact K _ _ _ H S_M_10 R_M_10 hF
    · skip
      replace hF := hF.trans (if_neg c3)
      rcases q_em H with ⟨c5, H⟩ | ⟨c5, H⟩
      · skip
        replace hF := hF.trans (if_pos c5)
        obtain ⟨M_4, e_M_4, H⟩ := q_all H
        have S_M_4 : y_S n M_4 := by rw [e_M_4]; exact S_sfi S
        have R_M_4 := rep_sfi R e_M_4
        obtain ⟨r_M_4, h_M_4⟩ := q_gen R_M_4
        replace hF := hF.trans (q_ste h_M_4.2)
        replace R_M_4 := h_M_4.1
        try simp only [qf_1630 R_M_4] at H
        rcases q_em H with ⟨c6, H⟩ | ⟨c6, H⟩
        · skip
          replace hF := hF.trans (if_pos c6)
          exact K _ _ _ H S_M_4 R_M_4 hF
        · skip
          replace hF := hF.trans (if_neg c6)
          exact K _ _ _ H S_M_4 R_M_4 hF
      · skip
        replace hF := hF.trans (if_neg c5)
        obtain ⟨M_7, e_M_7, H⟩ := q_all H
        have S_M_7 : y_S n M_7 := by rw [e_M_7]; exact S_sfi S
        have R_M_7 := rep_sfi R e_M_7
        obtain ⟨r_M_7, h_M_7⟩ := q_gen R_M_7
        replace hF := hF.trans (q_ste h_M_7.2)
        replace R_M_7 := h_M_7.1
        try simp only [qf_1630 R_M_7] at H
        rcases q_em H with ⟨c7, H⟩ | ⟨c7, H⟩
        · skip
          replace hF := hF.trans (if_pos c7)
          exact K _ _ _ H S_M_7 R_M_7 hF
        · skip
          replace hF := hF.trans (if_neg c7)
          exact K _ _ _ H S_M_7 R_M_7 hF
set_option maxRecDepth 100000 in
set_option maxHeartbeats 4000000 in
theorem qX_isPath {n : Nat} {X : Prop} {Q : Int32 → z_Mem → Prop} {p1 : Int32} {M : z_Mem} {r : q_R} (S : y_S n M) (R : q_rep n M r) (H : P_X12_isPath p1 M Q) (K : ∀ x M1 r1, Q x M1 → y_S n M1 → q_rep n M1 r1 → qF_isPath p1 r = (x, r1) → X) : X := by
  have hF := qE_isPath p1 r
  unfold P_X12_isPath at H
  refine qX_in S R H (fun x_1 M_1 r_M_1 H S_M_1 R_M_1 u => ?_)
  replace hF := hF.trans (q_ste2 u)
  exact K _ _ _ H S_M_1 R_M_1 hF
set_option maxRecDepth 100000 in
set_option maxHeartbeats 4000000 in
theorem qX_isStream {n : Nat} {X : Prop} {Q : Int32 → z_Mem → Prop} {p1 : Int32} {M : z_Mem} {r : q_R} (S : y_S n M) (R : q_rep n M r) (H : P_X12_isStream p1 M Q) (K : ∀ x M1 r1, Q x M1 → y_S n M1 → q_rep n M1 r1 → qF_isStream p1 r = (x, r1) → X) : X := by
  have hF := qE_isStream p1 r
  unfold P_X12_isStream at H
  refine qX_in S R H (fun x_1 M_1 r_M_1 H S_M_1 R_M_1 u => ?_)
  replace hF := hF.trans (q_ste2 u)
  exact K _ _ _ H S_M_1 R_M_1 hF
set_option maxRecDepth 100000 in
set_option maxHeartbeats 4000000 in
theorem qX_max {n : Nat} {X : Prop} {Q : Int32 → z_Mem → Prop} {p1 : Int32} {p2 : Int32} {M : z_Mem} {r : q_R} (S : y_S n M) (R : q_rep n M r) (H : P_X12_max p1 p2 M Q) (K : ∀ x M1 r1, Q x M1 → y_S n M1 → q_rep n M1 r1 → qF_max p1 p2 r = (x, r1) → X) : X := by
  have hF := qE_max p1 p2 r
  unfold P_X12_max at H
  rcases q_em H with ⟨c1, H⟩ | ⟨c1, H⟩
  · skip
    replace hF := hF.trans (if_pos c1)
    exact K _ _ _ H S R hF
  · skip
    replace hF := hF.trans (if_neg c1)
    exact K _ _ _ H S R hF
set_option maxRecDepth 100000 in
set_option maxHeartbeats 4000000 in
theorem qX_puts_111 {n : Nat} {X : Prop} {Q : z_Mem → Prop} {x1 : Int32} {x2 : Int32} {x3 : Int32} {M : z_Mem} {r : q_R} (S : y_S n M) (R : q_rep n M r) (H : P_X12_puts_111 (n + 40) Q x1 x2 x3 M) (K : ∀ M1 r1, Q M1 → y_S n M1 → q_rep n M1 r1 → qF_puts_111 x1 x2 x3 r = r1 → X) : X := by
  have hF := qE_puts_111 x1 x2 x3 r
  unfold P_X12_puts_111 at H
  replace H := z_nne (s_1548_40 S) H
  replace H := H.2
  try simp only [qf_1551 R] at H
  obtain ⟨M_5, e_M_5, H⟩ := q_all H
  have S_M_5 : y_S n M_5 := by rw [e_M_5]; exact S_sai S
  have R_M_5 := rep_sai R (by decide) (by decide) e_M_5
  obtain ⟨r_M_5, h_M_5⟩ := q_gen R_M_5
  replace hF := hF.trans (q_ste h_M_5.2)
  replace R_M_5 := h_M_5.1
  replace H := z_nne (s_1549_40 S_M_5) H
  replace H := H.2
  try simp only [qf_1551 R_M_5] at H
  obtain ⟨M_10, e_M_10, H⟩ := q_all H
  have S_M_10 : y_S n M_10 := by rw [e_M_10]; exact S_sai S_M_5
  have R_M_10 := rep_sai R_M_5 (by decide) (by decide) e_M_10
  obtain ⟨r_M_10, h_M_10⟩ := q_gen R_M_10
  replace hF := hF.trans (q_ste h_M_10.2)
  replace R_M_10 := h_M_10.1
  replace H := z_nne (s_1550_40 S_M_10) H
  replace H := H.2
  try simp only [qf_1551 R_M_10] at H
  obtain ⟨M_15, e_M_15, H⟩ := q_all H
  have S_M_15 : y_S n M_15 := by rw [e_M_15]; exact S_sai S_M_10
  have R_M_15 := rep_sai R_M_10 (by decide) (by decide) e_M_15
  obtain ⟨r_M_15, h_M_15⟩ := q_gen R_M_15
  replace hF := hF.trans (q_ste h_M_15.2)
  replace R_M_15 := h_M_15.1
  replace H := z_nne (s_1547_40 S_M_15) H
  replace H := H.2
  replace H := z_nne (s_1546_40 S_M_15) H
  replace H := H.2
  try simp only [qa_51 R_M_15, qf_1551 R_M_15] at H
  obtain ⟨M_23, e_M_23, H⟩ := q_all H
  have S_M_23 : y_S n M_23 := by rw [e_M_23]; exact S_sai S_M_15
  have R_M_23 := rep_sai R_M_15 (by decide) (by decide) e_M_23
  obtain ⟨r_M_23, h_M_23⟩ := q_gen R_M_23
  replace hF := hF.trans (q_ste h_M_23.2)
  replace R_M_23 := h_M_23.1
  replace H := z_nne (s_1547_40 S_M_23) H
  replace H := H.2
  replace H := H.2
  try simp only [qa_51 R_M_23] at H
  obtain ⟨M_28, e_M_28, H⟩ := q_all H
  have S_M_28 : y_S n M_28 := by rw [e_M_28]; exact S_sai S_M_23
  have R_M_28 := rep_sai R_M_23 (by decide) (by decide) e_M_28
  obtain ⟨r_M_28, h_M_28⟩ := q_gen R_M_28
  replace hF := hF.trans (q_ste h_M_28.2)
  replace R_M_28 := h_M_28.1
  try simp only [qf_1551 R_M_28] at H
  obtain ⟨M_30, e_M_30, H⟩ := q_all H
  have S_M_30 : y_S n M_30 := by rw [e_M_30]; exact S_sfi S_M_28
  have R_M_30 := rep_sfi R_M_28 e_M_30
  obtain ⟨r_M_30, h_M_30⟩ := q_gen R_M_30
  replace hF := hF.trans (q_ste h_M_30.2)
  replace R_M_30 := h_M_30.1
  exact K _ _ H S_M_30 R_M_30 hF
set_option maxRecDepth 100000 in
set_option maxHeartbeats 4000000 in
theorem qX_puts_110 {n : Nat} {X : Prop} {Q : z_Mem → Prop} {x1 : Int32} {x2 : Int32} {x3 : Int32} {t1 : Int32} {t2 : Int32} {t0 : Nat} {o_t0 : Option Nat} {M : z_Mem} {r : q_R} (h0_t0 : 41 ≤ t0) (h1_t0 : t0 < 107) (ho_t0 : o_t0 = some (n + t0)) (S : y_S n M) (R : q_rep n M r) (H : P_X12_puts_110 (n + 40) Q x1 x2 x3 o_t0 t1 t2 M) (K : ∀ M1 r1, Q M1 → y_S n M1 → q_rep n M1 r1 → qF_puts_110 x1 x2 x3 t0 t1 t2 r = r1 → X) : X := by
  subst ho_t0
  have hF := qE_puts_110 x1 x2 x3 t0 t1 t2 r
  unfold P_X12_puts_110 at H
  replace H := z_nne rfl H
  replace H := H.2
  obtain ⟨M_33, e_M_33, H⟩ := q_all H
  have S_M_33 : y_S n M_33 := by rw [e_M_33]; exact S_sai S
  have R_M_33 := rep_sai R h0_t0 h1_t0 e_M_33
  obtain ⟨r_M_33, h_M_33⟩ := q_gen R_M_33
  replace hF := hF.trans (q_ste h_M_33.2)
  replace R_M_33 := h_M_33.1
  exact qX_puts_111 S_M_33 R_M_33 H (fun M1 r1 q1 q2 q3 u => K M1 r1 q1 q2 q3 (hF.trans u))
set_option maxRecDepth 100000 in
set_option maxHeartbeats 4000000 in
theorem qX_puts_60 {n : Nat} {X : Prop} {Q : z_Mem → Prop} {x1 : Int32} {x2 : Int32} {x3 : Int32} {t0 : Int32} {M : z_Mem} {r : q_R} (S : y_S n M) (R : q_rep n M r) (H : P_X12_puts_60 (n + 40) Q x1 x2 x3 t0 M) (K : ∀ M1 r1, Q M1 → y_S n M1 → q_rep n M1 r1 → qF_puts_60 x1 x2 x3 t0 r = r1 → X) : X := by
  have hF := qE_puts_60 x1 x2 x3 t0 r
  unfold P_X12_puts_60 at H
  rcases q_em H with ⟨c1, H⟩ | ⟨c1, H⟩
  · skip
    replace hF := hF.trans (if_pos c1)
    rcases q_em H with ⟨c2, H⟩ | ⟨c2, H⟩
    · skip
      replace hF := hF.trans (if_pos c2)
      replace H := z_nne (s_1547_40 S) H
      replace H := H.2
      replace H := z_nne (s_1540_40 S) H
      replace H := H.2
      try simp only [qa_44 R, qa_51 R] at H
      rcases q_em H with ⟨c3, H⟩ | ⟨c3, H⟩
      · skip
        replace hF := hF.trans (if_pos c3)
        exact qX_puts_110 (by decide) (by decide) (s_1603_40 S) S R H (fun M1 r1 q1 q2 q3 u => K M1 r1 q1 q2 q3 (hF.trans u))
      · skip
        replace hF := hF.trans (if_neg c3)
        exact qX_puts_110 (by decide) (by decide) (s_1603_40 S) S R H (fun M1 r1 q1 q2 q3 u => K M1 r1 q1 q2 q3 (hF.trans u))
    · skip
      replace hF := hF.trans (if_neg c2)
      exact qX_puts_111 S R H (fun M1 r1 q1 q2 q3 u => K M1 r1 q1 q2 q3 (hF.trans u))
  · skip
    replace hF := hF.trans (if_neg c1)
    rcases q_em H with ⟨c4, H⟩ | ⟨c4, H⟩
    · skip
      replace hF := hF.trans (if_pos c4)
      replace H := z_nne (s_1599_40 S) H
      replace H := H.2
      obtain ⟨M_48, e_M_48, H⟩ := q_all H
      have S_M_48 : y_S n M_48 := by rw [e_M_48]; exact S_sai S
      have R_M_48 := rep_sai R (by decide) (by decide) e_M_48
      obtain ⟨r_M_48, h_M_48⟩ := q_gen R_M_48
      replace hF := hF.trans (q_ste h_M_48.2)
      replace R_M_48 := h_M_48.1
      exact K _ _ H S_M_48 R_M_48 hF
    · skip
      replace hF := hF.trans (if_neg c4)
      exact K _ _ H S R hF
set_option maxRecDepth 100000 in
set_option maxHeartbeats 4000000 in
theorem qX_puts_55 {n : Nat} {X : Prop} {Q : z_Mem → Prop} {x1 : Int32} {x2 : Int32} {x3 : Int32} {M : z_Mem} {r : q_R} (S : y_S n M) (R : q_rep n M r) (H : P_X12_puts_55 (n + 40) Q x1 x2 x3 M) (K : ∀ M1 r1, Q M1 → y_S n M1 → q_rep n M1 r1 → qF_puts_55 x1 x2 x3 r = r1 → X) : X := by
  have hF := qE_puts_55 x1 x2 x3 r
  unfold P_X12_puts_55 at H
  exact qX_puts_60 S R H (fun M1 r1 q1 q2 q3 u => K M1 r1 q1 q2 q3 (hF.trans u))
set_option maxRecDepth 100000 in
set_option maxHeartbeats 4000000 in
theorem qX_puts_35 {n : Nat} {X : Prop} {Q : z_Mem → Prop} {x1 : Int32} {x2 : Int32} {x3 : Int32} {x4 : Int32} {M : z_Mem} {r : q_R} (S : y_S n M) (R : q_rep n M r) (H : P_X12_puts_35 (n + 40) Q x1 x2 x3 x4 M) (K : ∀ M1 r1, Q M1 → y_S n M1 → q_rep n M1 r1 → qF_puts_35 x1 x2 x3 x4 r = r1 → X) : X := by
  have hF := qE_puts_35 x1 x2 x3 x4 r
  unfold P_X12_puts_35 at H
  rcases q_em H with ⟨c1, H⟩ | ⟨c1, H⟩
  · skip
    replace hF := hF.trans (if_pos c1)
    replace H := z_nne (s_1547_40 S) H
    replace H := H.2
    replace H := z_nne (s_1539_40 S) H
    replace H := H.2
    try simp only [qa_43 R, qa_51 R] at H
    rcases q_em H with ⟨c2, H⟩ | ⟨c2, H⟩
    · skip
      replace hF := hF.trans (if_pos c2)
      exact qX_puts_60 S R H (fun M1 r1 q1 q2 q3 u => K M1 r1 q1 q2 q3 (hF.trans u))
    · skip
      replace hF := hF.trans (if_neg c2)
      exact qX_puts_55 S R H (fun M1 r1 q1 q2 q3 u => K M1 r1 q1 q2 q3 (hF.trans u))
  · skip
    replace hF := hF.trans (if_neg c1)
    exact qX_puts_55 S R H (fun M1 r1 q1 q2 q3 u => K M1 r1 q1 q2 q3 (hF.trans u))
set_option maxRecDepth 100000 in
set_option maxHeartbeats 4000000 in
theorem qX_puts {n : Nat} {X : Prop} {Q : z_Mem → Prop} {p1 : Int32} {p2 : Int32} {p3 : Int32} {M : z_Mem} {r : q_R} (S : y_S n M) (R : q_rep n M r) (H : P_X12_puts (n + 40) p1 p2 p3 M Q) (K : ∀ M1 r1, Q M1 → y_S n M1 → q_rep n M1 r1 → qF_puts p1 p2 p3 r = r1 → X) : X := by
  have hF := qE_puts p1 p2 p3 r
  unfold P_X12_puts at H
  replace H := z_nne (s_1541_40 S) H
  replace H := H.2
  try simp only [qa_45 R] at H
  obtain ⟨x_60, e_x_60, H⟩ := q_all H
  replace hF := hF.trans (q_ste e_x_60)
  rcases q_em H with ⟨c1, H⟩ | ⟨c1, H⟩
  · skip
    replace hF := hF.trans (if_pos c1)
    replace H := z_nne (s_1542_40 S) H
    replace H := H.2
    try simp only [qa_46 R] at H
    rcases q_em H with ⟨c2, H⟩ | ⟨c2, H⟩
    · skip
      replace hF := hF.trans (if_pos c2)
      exact qX_puts_35 S R H (fun M1 r1 q1 q2 q3 u => K M1 r1 q1 q2 q3 (hF.trans u))
    · skip
      replace hF := hF.trans (if_neg c2)
      replace H := z_nne (s_1542_40 S) H
      replace H := H.2
      replace H := H.2
      try simp only [qa_46 R] at H
      obtain ⟨M_70, e_M_70, H⟩ := q_all H
      have S_M_70 : y_S n M_70 := by rw [e_M_70]; exact S_sai S
      have R_M_70 := rep_sai R (by decide) (by decide) e_M_70
      obtain ⟨r_M_70, h_M_70⟩ := q_gen R_M_70
      replace hF := hF.trans (q_ste h_M_70.2)
      replace R_M_70 := h_M_70.1
      exact qX_puts_35 S_M_70 R_M_70 H (fun M1 r1 q1 q2 q3 u => K M1 r1 q1 q2 q3 (hF.trans u))
  · skip
    replace hF := hF.trans (if_neg c1)
    exact qX_puts_35 S R H (fun M1 r1 q1 q2 q3 u => K M1 r1 q1 q2 q3 (hF.trans u))
set_option maxRecDepth 100000 in
set_option maxHeartbeats 4000000 in
theorem qX_answers {n : Nat} {X : Prop} {Q : z_Mem → Prop} {p1 : Int32} {p2 : Int32} {p3 : Int32} {M : z_Mem} {r : q_R} (S : y_S n M) (R : q_rep n M r) (H : P_X12_answers (n + 40) p1 p2 p3 M Q) (K : ∀ M1 r1, Q M1 → y_S n M1 → q_rep n M1 r1 → qF_answers p1 p2 p3 r = r1 → X) : X := by
  have hF := qE_answers p1 p2 p3 r
  unfold P_X12_answers at H
  replace H := z_nne (s_1541_40 S) H
  replace H := H.2
  try simp only [qa_45 R] at H
  rcases q_em H with ⟨c1, H⟩ | ⟨c1, H⟩
  · skip
    replace hF := hF.trans (if_pos c1)
    replace H := z_nne (s_1543_40 S) H
    replace H := H.2
    try simp only [qa_47 R] at H
    rcases q_em H with ⟨c2, H⟩ | ⟨c2, H⟩
    · skip
      replace hF := hF.trans (if_pos c2)
      replace H := z_nne (s_1555_40 S) H
      replace H := H.2
      try simp only [qf_1559 R] at H
      obtain ⟨M_13, e_M_13, H⟩ := q_all H
      have S_M_13 : y_S n M_13 := by rw [e_M_13]; exact S_sai S
      have R_M_13 := rep_sai R (by decide) (by decide) e_M_13
      obtain ⟨r_M_13, h_M_13⟩ := q_gen R_M_13
      replace hF := hF.trans (q_ste h_M_13.2)
      replace R_M_13 := h_M_13.1
      replace H := z_nne (s_1556_40 S_M_13) H
      replace H := H.2
      try simp only [qf_1559 R_M_13] at H
      obtain ⟨M_18, e_M_18, H⟩ := q_all H
      have S_M_18 : y_S n M_18 := by rw [e_M_18]; exact S_sai S_M_13
      have R_M_18 := rep_sai R_M_13 (by decide) (by decide) e_M_18
      obtain ⟨r_M_18, h_M_18⟩ := q_gen R_M_18
      replace hF := hF.trans (q_ste h_M_18.2)
      replace R_M_18 := h_M_18.1
      replace H := z_nne (s_1557_40 S_M_18) H
      replace H := H.2
      try simp only [qf_1559 R_M_18] at H
      obtain ⟨M_23, e_M_23, H⟩ := q_all H
      have S_M_23 : y_S n M_23 := by rw [e_M_23]; exact S_sai S_M_18
      have R_M_23 := rep_sai R_M_18 (by decide) (by decide) e_M_23
      obtain ⟨r_M_23, h_M_23⟩ := q_gen R_M_23
      replace hF := hF.trans (q_ste h_M_23.2)
      replace R_M_23 := h_M_23.1
      replace H := z_nne (s_1537_40 S_M_23) H
      replace H := H.2
      replace H := z_nne (s_1558_40 S_M_23) H
      replace H := H.2
      try simp only [qa_41 R_M_23, qf_1536 R_M_23, qf_1559 R_M_23] at H
      obtain ⟨M_32, e_M_32, H⟩ := q_all H
      have S_M_32 : y_S n M_32 := by rw [e_M_32]; exact S_sai S_M_23
      have R_M_32 := rep_sai R_M_23 (by decide) (by decide) e_M_32
      obtain ⟨r_M_32, h_M_32⟩ := q_gen R_M_32
      replace hF := hF.trans (q_ste h_M_32.2)
      replace R_M_32 := h_M_32.1
      try simp only [qf_1559 R_M_32] at H
      obtain ⟨M_34, e_M_34, H⟩ := q_all H
      have S_M_34 : y_S n M_34 := by rw [e_M_34]; exact S_sfi S_M_32
      have R_M_34 := rep_sfi R_M_32 e_M_34
      obtain ⟨r_M_34, h_M_34⟩ := q_gen R_M_34
      replace hF := hF.trans (q_ste h_M_34.2)
      replace R_M_34 := h_M_34.1
      exact K _ _ H S_M_34 R_M_34 hF
    · skip
      replace hF := hF.trans (if_neg c2)
      replace H := z_nne (s_1543_40 S) H
      replace H := H.2
      replace H := H.2
      try simp only [qa_47 R] at H
      obtain ⟨M_39, e_M_39, H⟩ := q_all H
      have S_M_39 : y_S n M_39 := by rw [e_M_39]; exact S_sai S
      have R_M_39 := rep_sai R (by decide) (by decide) e_M_39
      obtain ⟨r_M_39, h_M_39⟩ := q_gen R_M_39
      replace hF := hF.trans (q_ste h_M_39.2)
      replace R_M_39 := h_M_39.1
      exact K _ _ H S_M_39 R_M_39 hF
  · skip
    replace hF := hF.trans (if_neg c1)
    exact K _ _ H S R hF
set_option maxRecDepth 100000 in
set_option maxHeartbeats 4000000 in
theorem qX_setPath_52 {n : Nat} {X : Prop} {Q : z_Mem → Prop} {x1 : Int32} {x2 : Int32} {x3 : Int32} {x4 : Int32} {x5 : Int32} {t1 : Int32} {t2 : Int32} {o_t0 : Option Nat} {M : z_Mem} {r : q_R} (ho_t0 : o_t0 = some (n + 40)) (S : y_S n M) (R : q_rep n M r) (H : P_X12_setPath_52 (n + 40) Q x1 x2 x3 x4 x5 o_t0 t1 t2 M) (K : ∀ M1 r1, Q M1 → y_S n M1 → q_rep n M1 r1 → qF_setPath_52 x1 x2 x3 x4 x5 t1 t2 r = r1 → X) : X := by
  subst ho_t0
  have hF := qE_setPath_52 x1 x2 x3 x4 x5 t1 t2 r
  unfold P_X12_setPath_52 at H
  replace H := z_nne rfl H
  refine qX_goes S R H (fun x_1 M_1 r_M_1 H S_M_1 R_M_1 u => ?_)
  replace hF := hF.trans (q_ste2 u)
  rcases q_em H with ⟨c1, H⟩ | ⟨c1, H⟩
  · skip
    replace hF := hF.trans (if_pos c1)
    exact K _ _ H S_M_1 R_M_1 hF
  · skip
    replace hF := hF.trans (if_neg c1)
    replace H := z_nne (s_1537_40 S_M_1) H
    replace H := H.2
    obtain ⟨M_7, e_M_7, H⟩ := q_all H
    have S_M_7 : y_S n M_7 := by rw [e_M_7]; exact S_sai S_M_1
    have R_M_7 := rep_sai R_M_1 (by decide) (by decide) e_M_7
    obtain ⟨r_M_7, h_M_7⟩ := q_gen R_M_7
    replace hF := hF.trans (q_ste h_M_7.2)
    replace R_M_7 := h_M_7.1
    replace H := z_nne (s_1538_40 S_M_7) H
    replace H := H.2
    obtain ⟨M_11, e_M_11, H⟩ := q_all H
    have S_M_11 : y_S n M_11 := by rw [e_M_11]; exact S_sai S_M_7
    have R_M_11 := rep_sai R_M_7 (by decide) (by decide) e_M_11
    obtain ⟨r_M_11, h_M_11⟩ := q_gen R_M_11
    replace hF := hF.trans (q_ste h_M_11.2)
    replace R_M_11 := h_M_11.1
    replace H := z_nne (s_1539_40 S_M_11) H
    replace H := H.2
    obtain ⟨M_15, e_M_15, H⟩ := q_all H
    have S_M_15 : y_S n M_15 := by rw [e_M_15]; exact S_sai S_M_11
    have R_M_15 := rep_sai R_M_11 (by decide) (by decide) e_M_15
    obtain ⟨r_M_15, h_M_15⟩ := q_gen R_M_15
    replace hF := hF.trans (q_ste h_M_15.2)
    replace R_M_15 := h_M_15.1
    replace H := z_nne (s_1540_40 S_M_15) H
    replace H := H.2
    obtain ⟨M_19, e_M_19, H⟩ := q_all H
    have S_M_19 : y_S n M_19 := by rw [e_M_19]; exact S_sai S_M_15
    have R_M_19 := rep_sai R_M_15 (by decide) (by decide) e_M_19
    obtain ⟨r_M_19, h_M_19⟩ := q_gen R_M_19
    replace hF := hF.trans (q_ste h_M_19.2)
    replace R_M_19 := h_M_19.1
    exact K _ _ H S_M_19 R_M_19 hF
set_option maxRecDepth 100000 in
set_option maxHeartbeats 4000000 in
theorem qX_setPath_51 {n : Nat} {X : Prop} {Q : z_Mem → Prop} {x1 : Int32} {x2 : Int32} {x3 : Int32} {x4 : Int32} {x5 : Int32} {t1 : Int32} {o_t0 : Option Nat} {M : z_Mem} {r : q_R} (ho_t0 : o_t0 = some (n + 40)) (S : y_S n M) (R : q_rep n M r) (H : P_X12_setPath_51 (n + 40) Q x1 x2 x3 x4 x5 o_t0 t1 M) (K : ∀ M1 r1, Q M1 → y_S n M1 → q_rep n M1 r1 → qF_setPath_51 x1 x2 x3 x4 x5 t1 r = r1 → X) : X := by
  subst ho_t0
  have hF := qE_setPath_51 x1 x2 x3 x4 x5 t1 r
  unfold P_X12_setPath_51 at H
  exact qX_setPath_52 rfl S R H (fun M1 r1 q1 q2 q3 u => K M1 r1 q1 q2 q3 (hF.trans u))
set_option maxRecDepth 100000 in
set_option maxHeartbeats 4000000 in
theorem qX_setPath {n : Nat} {X : Prop} {Q : z_Mem → Prop} {p1 : Int32} {p2 : Int32} {p3 : Int32} {p4 : Int32} {p5 : Int32} {M : z_Mem} {r : q_R} (S : y_S n M) (R : q_rep n M r) (H : P_X12_setPath (n + 40) p1 p2 p3 p4 p5 M Q) (K : ∀ M1 r1, Q M1 → y_S n M1 → q_rep n M1 r1 → qF_setPath p1 p2 p3 p4 p5 r = r1 → X) : X := by
  have hF := qE_setPath p1 p2 p3 p4 p5 r
  unfold P_X12_setPath at H
  refine qX_isPath S R H (fun x_20 M_20 r_M_20 H S_M_20 R_M_20 u => ?_)
  replace hF := hF.trans (q_ste2 u)
  refine qX_in S_M_20 R_M_20 H (fun x_21 M_21 r_M_21 H S_M_21 R_M_21 u => ?_)
  replace hF := hF.trans (q_ste2 u)
  rcases q_em H with ⟨c1, H⟩ | ⟨c1, H⟩
  · skip
    replace hF := hF.trans (if_pos c1)
    exact qX_setPath_51 rfl S_M_21 R_M_21 H (fun M1 r1 q1 q2 q3 u => K M1 r1 q1 q2 q3 (hF.trans u))
  · skip
    replace hF := hF.trans (if_neg c1)
    refine qX_in S_M_21 R_M_21 H (fun x_23 M_23 r_M_23 H S_M_23 R_M_23 u => ?_)
    replace hF := hF.trans (q_ste2 u)
    rcases q_em H with ⟨c2, H⟩ | ⟨c2, H⟩
    · skip
      replace hF := hF.trans (if_pos c2)
      exact qX_setPath_51 rfl S_M_23 R_M_23 H (fun M1 r1 q1 q2 q3 u => K M1 r1 q1 q2 q3 (hF.trans u))
    · skip
      replace hF := hF.trans (if_neg c2)
      refine qX_in S_M_23 R_M_23 H (fun x_25 M_25 r_M_25 H S_M_25 R_M_25 u => ?_)
      replace hF := hF.trans (q_ste2 u)
      rcases q_em H with ⟨c3, H⟩ | ⟨c3, H⟩
      · skip
        replace hF := hF.trans (if_pos c3)
        exact qX_setPath_51 rfl S_M_25 R_M_25 H (fun M1 r1 q1 q2 q3 u => K M1 r1 q1 q2 q3 (hF.trans u))
      · skip
        replace hF := hF.trans (if_neg c3)
        refine qX_in S_M_25 R_M_25 H (fun x_27 M_27 r_M_27 H S_M_27 R_M_27 u => ?_)
        replace hF := hF.trans (q_ste2 u)
        rcases q_em H with ⟨c4, H⟩ | ⟨c4, H⟩
        · skip
          replace hF := hF.trans (if_pos c4)
          exact qX_setPath_51 rfl S_M_27 R_M_27 H (fun M1 r1 q1 q2 q3 u => K M1 r1 q1 q2 q3 (hF.trans u))
        · skip
          replace hF := hF.trans (if_neg c4)
          exact qX_setPath_52 rfl S_M_27 R_M_27 H (fun M1 r1 q1 q2 q3 u => K M1 r1 q1 q2 q3 (hF.trans u))
set_option maxRecDepth 100000 in
set_option maxHeartbeats 4000000 in
theorem qX_setUp_29 {n : Nat} {X : Prop} {Q : Int32 → z_Mem → Prop} {x1 : Int32} {x2 : Int32} {t0 : Int32} {M : z_Mem} {r : q_R} (S : y_S n M) (R : q_rep n M r) (H : P_X12_setUp_29 (n + 40) Q x1 x2 t0 M) (K : ∀ x M1 r1, Q x M1 → y_S n M1 → q_rep n M1 r1 → qF_setUp_29 x1 x2 t0 r = (x, r1) → X) : X := by
  have hF := qE_setUp_29 x1 x2 t0 r
  unfold P_X12_setUp_29 at H
  rcases q_em H with ⟨c1, H⟩ | ⟨c1, H⟩
  · skip
    replace hF := hF.trans (if_pos c1)
    replace H := z_nne (s_1541_40 S) H
    replace H := H.2
    obtain ⟨M_8, e_M_8, H⟩ := q_all H
    have S_M_8 : y_S n M_8 := by rw [e_M_8]; exact S_sai S
    have R_M_8 := rep_sai R (by decide) (by decide) e_M_8
    obtain ⟨r_M_8, h_M_8⟩ := q_gen R_M_8
    replace hF := hF.trans (q_ste h_M_8.2)
    replace R_M_8 := h_M_8.1
    exact K _ _ _ H S_M_8 R_M_8 hF
  · skip
    replace hF := hF.trans (if_neg c1)
    replace H := z_nne (s_1541_40 S) H
    replace H := H.2
    obtain ⟨M_5, e_M_5, H⟩ := q_all H
    have S_M_5 : y_S n M_5 := by rw [e_M_5]; exact S_sai S
    have R_M_5 := rep_sai R (by decide) (by decide) e_M_5
    obtain ⟨r_M_5, h_M_5⟩ := q_gen R_M_5
    replace hF := hF.trans (q_ste h_M_5.2)
    replace R_M_5 := h_M_5.1
    exact K _ _ _ H S_M_5 R_M_5 hF
set_option maxRecDepth 100000 in
set_option maxHeartbeats 4000000 in
theorem qX_setUp {n : Nat} {X : Prop} {Q : Int32 → z_Mem → Prop} {p1 : Int32} {p2 : Int32} {M : z_Mem} {r : q_R} (S : y_S n M) (R : q_rep n M r) (H : P_X12_setUp (n + 40) p1 p2 M Q) (K : ∀ x M1 r1, Q x M1 → y_S n M1 → q_rep n M1 r1 → qF_setUp p1 p2 r = (x, r1) → X) : X := by
  have hF := qE_setUp p1 p2 r
  unfold P_X12_setUp at H
  refine qX_isPath S R H (fun x_9 M_9 r_M_9 H S_M_9 R_M_9 u => ?_)
  replace hF := hF.trans (q_ste2 u)
  refine qX_goes S_M_9 R_M_9 H (fun x_10 M_10 r_M_10 H S_M_10 R_M_10 u => ?_)
  replace hF := hF.trans (q_ste2 u)
  rcases q_em H with ⟨c1, H⟩ | ⟨c1, H⟩
  · skip
    replace hF := hF.trans (if_pos c1)
    exact K _ _ _ H S_M_10 R_M_10 hF
  · skip
    replace hF := hF.trans (if_neg c1)
    replace H := z_nne (s_1541_40 S_M_10) H
    replace H := H.2
    try simp only [qa_45 R_M_10] at H
    rcases q_em H with ⟨c2, H⟩ | ⟨c2, H⟩
    · skip
      replace hF := hF.trans (if_pos c2)
      exact qX_setUp_29 S_M_10 R_M_10 H (fun x M1 r1 q1 q2 q3 u => K x M1 r1 q1 q2 q3 (hF.trans u))
    · skip
      replace hF := hF.trans (if_neg c2)
      exact qX_setUp_29 S_M_10 R_M_10 H (fun x M1 r1 q1 q2 q3 u => K x M1 r1 q1 q2 q3 (hF.trans u))
set_option maxRecDepth 100000 in
set_option maxHeartbeats 4000000 in
theorem qX_lose {n : Nat} {X : Prop} {Q : z_Mem → Prop} {p1 : Int32} {p2 : Int32} {p3 : Int32} {M : z_Mem} {r : q_R} (S : y_S n M) (R : q_rep n M r) (H : P_X12_lose (n + 40) p1 p2 p3 M Q) (K : ∀ M1 r1, Q M1 → y_S n M1 → q_rep n M1 r1 → qF_lose p1 p2 p3 r = r1 → X) : X := by
  have hF := qE_lose p1 p2 p3 r
  unfold P_X12_lose at H
  refine qX_isPath S R H (fun x_1 M_1 r_M_1 H S_M_1 R_M_1 u => ?_)
  replace hF := hF.trans (q_ste2 u)
  refine qX_in S_M_1 R_M_1 H (fun x_2 M_2 r_M_2 H S_M_2 R_M_2 u => ?_)
  replace hF := hF.trans (q_ste2 u)
  refine qX_goes S_M_2 R_M_2 H (fun x_3 M_3 r_M_3 H S_M_3 R_M_3 u => ?_)
  replace hF := hF.trans (q_ste2 u)
  rcases q_em H with ⟨c1, H⟩ | ⟨c1, H⟩
  · skip
    replace hF := hF.trans (if_pos c1)
    exact K _ _ H S_M_3 R_M_3 hF
  · skip
    replace hF := hF.trans (if_neg c1)
    rcases q_em H with ⟨c2, H⟩ | ⟨c2, H⟩
    · skip
      replace hF := hF.trans (if_pos c2)
      replace H := z_nne (s_1543_40 S_M_3) H
      replace H := H.2
      obtain ⟨M_9, e_M_9, H⟩ := q_all H
      have S_M_9 : y_S n M_9 := by rw [e_M_9]; exact S_sai S_M_3
      have R_M_9 := rep_sai R_M_3 (by decide) (by decide) e_M_9
      obtain ⟨r_M_9, h_M_9⟩ := q_gen R_M_9
      replace hF := hF.trans (q_ste h_M_9.2)
      replace R_M_9 := h_M_9.1
      exact K _ _ H S_M_9 R_M_9 hF
    · skip
      replace hF := hF.trans (if_neg c2)
      replace H := z_nne (s_1542_40 S_M_3) H
      replace H := H.2
      obtain ⟨M_13, e_M_13, H⟩ := q_all H
      have S_M_13 : y_S n M_13 := by rw [e_M_13]; exact S_sai S_M_3
      have R_M_13 := rep_sai R_M_3 (by decide) (by decide) e_M_13
      obtain ⟨r_M_13, h_M_13⟩ := q_gen R_M_13
      replace hF := hF.trans (q_ste h_M_13.2)
      replace R_M_13 := h_M_13.1
      exact K _ _ H S_M_13 R_M_13 hF
set_option maxRecDepth 100000 in
set_option maxHeartbeats 4000000 in
theorem qX_late_30 {n : Nat} {X : Prop} {Q : z_Mem → Prop} {x1 : Int32} {x2 : Int32} {x3 : Int32} {t1 : Int32} {t2 : Int32} {o_t0 : Option Nat} {M : z_Mem} {r : q_R} (ho_t0 : o_t0 = some (n + 40)) (S : y_S n M) (R : q_rep n M r) (H : P_X12_late_30 (n + 40) Q x1 x2 x3 o_t0 t1 t2 M) (K : ∀ M1 r1, Q M1 → y_S n M1 → q_rep n M1 r1 → qF_late_30 x1 x2 x3 t1 t2 r = r1 → X) : X := by
  subst ho_t0
  have hF := qE_late_30 x1 x2 x3 t1 t2 r
  unfold P_X12_late_30 at H
  replace H := z_nne rfl H
  refine qX_goes S R H (fun x_1 M_1 r_M_1 H S_M_1 R_M_1 u => ?_)
  replace hF := hF.trans (q_ste2 u)
  rcases q_em H with ⟨c1, H⟩ | ⟨c1, H⟩
  · skip
    replace hF := hF.trans (if_pos c1)
    exact K _ _ H S_M_1 R_M_1 hF
  · skip
    replace hF := hF.trans (if_neg c1)
    replace H := z_nne (s_1544_40 S_M_1) H
    replace H := H.2
    obtain ⟨M_7, e_M_7, H⟩ := q_all H
    have S_M_7 : y_S n M_7 := by rw [e_M_7]; exact S_sai S_M_1
    have R_M_7 := rep_sai R_M_1 (by decide) (by decide) e_M_7
    obtain ⟨r_M_7, h_M_7⟩ := q_gen R_M_7
    replace hF := hF.trans (q_ste h_M_7.2)
    replace R_M_7 := h_M_7.1
    replace H := z_nne (s_1545_40 S_M_7) H
    replace H := H.2
    obtain ⟨M_11, e_M_11, H⟩ := q_all H
    have S_M_11 : y_S n M_11 := by rw [e_M_11]; exact S_sai S_M_7
    have R_M_11 := rep_sai R_M_7 (by decide) (by decide) e_M_11
    obtain ⟨r_M_11, h_M_11⟩ := q_gen R_M_11
    replace hF := hF.trans (q_ste h_M_11.2)
    replace R_M_11 := h_M_11.1
    exact K _ _ H S_M_11 R_M_11 hF
set_option maxRecDepth 100000 in
set_option maxHeartbeats 4000000 in
theorem qX_late_29 {n : Nat} {X : Prop} {Q : z_Mem → Prop} {x1 : Int32} {x2 : Int32} {x3 : Int32} {t1 : Int32} {o_t0 : Option Nat} {M : z_Mem} {r : q_R} (ho_t0 : o_t0 = some (n + 40)) (S : y_S n M) (R : q_rep n M r) (H : P_X12_late_29 (n + 40) Q x1 x2 x3 o_t0 t1 M) (K : ∀ M1 r1, Q M1 → y_S n M1 → q_rep n M1 r1 → qF_late_29 x1 x2 x3 t1 r = r1 → X) : X := by
  subst ho_t0
  have hF := qE_late_29 x1 x2 x3 t1 r
  unfold P_X12_late_29 at H
  exact qX_late_30 rfl S R H (fun M1 r1 q1 q2 q3 u => K M1 r1 q1 q2 q3 (hF.trans u))
set_option maxRecDepth 100000 in
set_option maxHeartbeats 4000000 in
theorem qX_late {n : Nat} {X : Prop} {Q : z_Mem → Prop} {p1 : Int32} {p2 : Int32} {p3 : Int32} {M : z_Mem} {r : q_R} (S : y_S n M) (R : q_rep n M r) (H : P_X12_late (n + 40) p1 p2 p3 M Q) (K : ∀ M1 r1, Q M1 → y_S n M1 → q_rep n M1 r1 → qF_late p1 p2 p3 r = r1 → X) : X := by
  have hF := qE_late p1 p2 p3 r
  unfold P_X12_late at H
  refine qX_isPath S R H (fun x_12 M_12 r_M_12 H S_M_12 R_M_12 u => ?_)
  replace hF := hF.trans (q_ste2 u)
  refine qX_in S_M_12 R_M_12 H (fun x_13 M_13 r_M_13 H S_M_13 R_M_13 u => ?_)
  replace hF := hF.trans (q_ste2 u)
  rcases q_em H with ⟨c1, H⟩ | ⟨c1, H⟩
  · skip
    replace hF := hF.trans (if_pos c1)
    exact qX_late_29 rfl S_M_13 R_M_13 H (fun M1 r1 q1 q2 q3 u => K M1 r1 q1 q2 q3 (hF.trans u))
  · skip
    replace hF := hF.trans (if_neg c1)
    refine qX_in S_M_13 R_M_13 H (fun x_15 M_15 r_M_15 H S_M_15 R_M_15 u => ?_)
    replace hF := hF.trans (q_ste2 u)
    rcases q_em H with ⟨c2, H⟩ | ⟨c2, H⟩
    · skip
      replace hF := hF.trans (if_pos c2)
      exact qX_late_29 rfl S_M_15 R_M_15 H (fun M1 r1 q1 q2 q3 u => K M1 r1 q1 q2 q3 (hF.trans u))
    · skip
      replace hF := hF.trans (if_neg c2)
      exact qX_late_30 rfl S_M_15 R_M_15 H (fun M1 r1 q1 q2 q3 u => K M1 r1 q1 q2 q3 (hF.trans u))
set_option maxRecDepth 100000 in
set_option maxHeartbeats 4000000 in
theorem qX_foreign_23 {n : Nat} {X : Prop} {Q : Int32 → z_Mem → Prop} : ∀ (m : Nat) {x1 : Int32} {x2 : Int32} {x3 : Int32} {M : z_Mem} {r : q_R} (S : y_S n M) (R : q_rep n M r) (H : P_X12_foreign_23 (n + 40) Q m x1 x2 x3 M) (K : ∀ x M1 r1, Q x M1 → y_S n M1 → q_rep n M1 r1 → qF_foreign_23 x1 x2 x3 r = (x, r1) → X), X := by
  intro m
  induction m with
  | zero => intros; rename_i H _; exact False.elim H
  | succ m ih =>
    intro x1 x2 x3 M r S R H K
    have hF := qE_foreign_23 x1 x2 x3 r
    unfold P_X12_foreign_23 at H
    rcases q_em H with ⟨c1, H⟩ | ⟨c1, H⟩
    · skip
      replace hF := hF.trans (if_pos c1)
      exact K _ _ _ H S R (qUr_foreign_23 hF)
    · skip
      replace hF := hF.trans (if_neg c1)
      replace H := z_nne (s_1547_40 S) H
      replace H := H.2
      replace H := z_nne (s_1539_40 S) H
      replace H := H.2
      try simp only [qa_43 R, qa_51 R] at H
      rcases q_em H with ⟨c2, H⟩ | ⟨c2, H⟩
      · skip
        replace hF := hF.trans (if_pos c2)
        exact K _ _ _ H S R (qUr_foreign_23 hF)
      · skip
        replace hF := hF.trans (if_neg c2)
        replace H := z_nne (s_1547_40 S) H
        replace H := H.2
        replace H := z_nne (s_1546_40 S) H
        replace H := H.2
        try simp only [qa_51 R] at H
        obtain ⟨M_15, e_M_15, H⟩ := q_all H
        have S_M_15 : y_S n M_15 := by rw [e_M_15]; exact S_sai S
        have R_M_15 := rep_sai R (by decide) (by decide) e_M_15
        obtain ⟨r_M_15, h_M_15⟩ := q_gen R_M_15
        replace hF := hF.trans (q_ste h_M_15.2)
        replace R_M_15 := h_M_15.1
        replace H := z_nne (s_1547_40 S_M_15) H
        replace H := H.2
        replace H := H.2
        try simp only [qa_51 R_M_15] at H
        obtain ⟨M_20, e_M_20, H⟩ := q_all H
        have S_M_20 : y_S n M_20 := by rw [e_M_20]; exact S_sai S_M_15
        have R_M_20 := rep_sai R_M_15 (by decide) (by decide) e_M_20
        obtain ⟨r_M_20, h_M_20⟩ := q_gen R_M_20
        replace hF := hF.trans (q_ste h_M_20.2)
        replace R_M_20 := h_M_20.1
        obtain ⟨x_21, e_x_21, H⟩ := q_all H
        replace hF := hF.trans (q_ste e_x_21)
        replace hF := qUl_foreign_23 hF
        exact ih S_M_20 R_M_20 H (fun x M1 r1 q1 q2 q3 u => K x M1 r1 q1 q2 q3 (hF.trans u))
set_option maxRecDepth 100000 in
set_option maxHeartbeats 4000000 in
theorem qX_foreign {n : Nat} {X : Prop} {Q : Int32 → z_Mem → Prop} {p1 : Int32} {p2 : Int32} {M : z_Mem} {r : q_R} (S : y_S n M) (R : q_rep n M r) (H : P_X12_foreign (n + 40) p1 p2 M Q) (K : ∀ x M1 r1, Q x M1 → y_S n M1 → q_rep n M1 r1 → qF_foreign p1 p2 r = (x, r1) → X) : X := by
  have hF := qE_foreign p1 p2 r
  unfold P_X12_foreign at H
  refine qX_isPath S R H (fun x_22 M_22 r_M_22 H S_M_22 R_M_22 u => ?_)
  replace hF := hF.trans (q_ste2 u)
  refine qX_in S_M_22 R_M_22 H (fun x_23 M_23 r_M_23 H S_M_23 R_M_23 u => ?_)
  replace hF := hF.trans (q_ste2 u)
  refine qX_goes S_M_23 R_M_23 H (fun x_24 M_24 r_M_24 H S_M_24 R_M_24 u => ?_)
  replace hF := hF.trans (q_ste2 u)
  rcases q_em H with ⟨c1, H⟩ | ⟨c1, H⟩
  · skip
    replace hF := hF.trans (if_pos c1)
    exact K _ _ _ H S_M_24 R_M_24 hF
  · skip
    replace hF := hF.trans (if_neg c1)
    obtain ⟨m, H⟩ := H
    exact qX_foreign_23 m S_M_24 R_M_24 H (fun x M1 r1 q1 q2 q3 u => K x M1 r1 q1 q2 q3 (hF.trans u))
set_option maxRecDepth 100000 in
set_option maxHeartbeats 4000000 in
theorem qX_leaves_149 {n : Nat} {X : Prop} {Q : z_Mem → Prop} {QJ33 : Int32 → Int32 → Int32 → z_Mem → Prop} {x1 : Int32} {x2 : Int32} {x3 : Int32} {M : z_Mem} {r : q_R} (S : y_S n M) (R : q_rep n M r) (H : P_X12_leaves_149 (n + 40) Q QJ33 x1 x2 x3 M) (K : ∀ M1 r1, Q M1 → y_S n M1 → q_rep n M1 r1 → qF_leaves_149 x1 x2 x3 r = (.inr r1) → X) (KJ33 : ∀ v0 v1 v2 M1 r1, QJ33 v0 v1 v2 M1 → y_S n M1 → q_rep n M1 r1 → qF_leaves_149 x1 x2 x3 r = (.inl (v0, v1, v2, r1)) → X) : X := by
  have hF := qE_leaves_149 x1 x2 x3 r
  unfold P_X12_leaves_149 at H
  obtain ⟨x_1, e_x_1, H⟩ := q_all H
  replace hF := hF.trans (q_ste e_x_1)
  exact KJ33 _ _ _ _ _ H S R hF
set_option maxRecDepth 100000 in
set_option maxHeartbeats 4000000 in
theorem qX_leaves_137 {n : Nat} {X : Prop} {Q : z_Mem → Prop} {QJ33 : Int32 → Int32 → Int32 → z_Mem → Prop} {x1 : Int32} {x2 : Int32} {x3 : Int32} {t1 : Int32} {t2 : Int32} {t3 : Int32} {t0 : Nat} {o_t0 : Option Nat} {M : z_Mem} {r : q_R} (h0_t0 : 41 ≤ t0) (h1_t0 : t0 < 107) (ho_t0 : o_t0 = some (n + t0)) (S : y_S n M) (R : q_rep n M r) (H : P_X12_leaves_137 (n + 40) Q QJ33 x1 x2 x3 o_t0 t1 t2 t3 M) (K : ∀ M1 r1, Q M1 → y_S n M1 → q_rep n M1 r1 → qF_leaves_137 x1 x2 x3 t0 t1 t2 t3 r = (.inr r1) → X) (KJ33 : ∀ v0 v1 v2 M1 r1, QJ33 v0 v1 v2 M1 → y_S n M1 → q_rep n M1 r1 → qF_leaves_137 x1 x2 x3 t0 t1 t2 t3 r = (.inl (v0, v1, v2, r1)) → X) : X := by
  subst ho_t0
  have hF := qE_leaves_137 x1 x2 x3 t0 t1 t2 t3 r
  unfold P_X12_leaves_137 at H
  replace H := z_nne rfl H
  replace H := H.2
  obtain ⟨M_4, e_M_4, H⟩ := q_all H
  have S_M_4 : y_S n M_4 := by rw [e_M_4]; exact S_sai S
  have R_M_4 := rep_sai R h0_t0 h1_t0 e_M_4
  obtain ⟨r_M_4, h_M_4⟩ := q_gen R_M_4
  replace hF := hF.trans (q_ste h_M_4.2)
  replace R_M_4 := h_M_4.1
  try simp only [qf_1554 R_M_4] at H
  obtain ⟨M_6, e_M_6, H⟩ := q_all H
  have S_M_6 : y_S n M_6 := by rw [e_M_6]; exact S_sfi S_M_4
  have R_M_6 := rep_sfi R_M_4 e_M_6
  obtain ⟨r_M_6, h_M_6⟩ := q_gen R_M_6
  replace hF := hF.trans (q_ste h_M_6.2)
  replace R_M_6 := h_M_6.1
  exact qX_leaves_149 S_M_6 R_M_6 H (fun M1 r1 q1 q2 q3 u => K M1 r1 q1 q2 q3 (hF.trans u)) (fun v0 v1 v2 M1 r1 q1 q2 q3 u => KJ33 v0 v1 v2 M1 r1 q1 q2 q3 (hF.trans u))
set_option maxRecDepth 100000 in
set_option maxHeartbeats 4000000 in
theorem qX_leaves_90 {n : Nat} {X : Prop} {Q : z_Mem → Prop} {QJ33 : Int32 → Int32 → Int32 → z_Mem → Prop} {x1 : Int32} {x2 : Int32} {x3 : Int32} {x4 : Int32} {x5 : Int32} {t1 : Int32} {t2 : Int32} {t3 : Int32} {t0 : Nat} {o_t0 : Option Nat} {M : z_Mem} {r : q_R} (h0_t0 : 41 ≤ t0) (h1_t0 : t0 < 107) (ho_t0 : o_t0 = some (n + t0)) (S : y_S n M) (R : q_rep n M r) (H : P_X12_leaves_90 (n + 40) Q QJ33 x1 x2 x3 x4 x5 o_t0 t1 t2 t3 M) (K : ∀ M1 r1, Q M1 → y_S n M1 → q_rep n M1 r1 → qF_leaves_90 x1 x2 x3 x4 x5 t0 t1 t2 t3 r = (.inr r1) → X) (KJ33 : ∀ v0 v1 v2 M1 r1, QJ33 v0 v1 v2 M1 → y_S n M1 → q_rep n M1 r1 → qF_leaves_90 x1 x2 x3 x4 x5 t0 t1 t2 t3 r = (.inl (v0, v1, v2, r1)) → X) : X := by
  subst ho_t0
  have hF := qE_leaves_90 x1 x2 x3 x4 x5 t0 t1 t2 t3 r
  unfold P_X12_leaves_90 at H
  replace H := z_nne rfl H
  replace H := H.2
  obtain ⟨M_9, e_M_9, H⟩ := q_all H
  have S_M_9 : y_S n M_9 := by rw [e_M_9]; exact S_sai S
  have R_M_9 := rep_sai R h0_t0 h1_t0 e_M_9
  obtain ⟨r_M_9, h_M_9⟩ := q_gen R_M_9
  replace hF := hF.trans (q_ste h_M_9.2)
  replace R_M_9 := h_M_9.1
  replace H := z_nne (s_1552_40 S_M_9) H
  replace H := H.2
  try simp only [qf_1554 R_M_9] at H
  obtain ⟨M_14, e_M_14, H⟩ := q_all H
  have S_M_14 : y_S n M_14 := by rw [e_M_14]; exact S_sai S_M_9
  have R_M_14 := rep_sai R_M_9 (by decide) (by decide) e_M_14
  obtain ⟨r_M_14, h_M_14⟩ := q_gen R_M_14
  replace hF := hF.trans (q_ste h_M_14.2)
  replace R_M_14 := h_M_14.1
  replace H := z_nne (s_1537_40 S_M_14) H
  replace H := H.2
  rcases q_em H with ⟨c1, H⟩ | ⟨c1, H⟩
  · skip
    replace hF := hF.trans (if_pos c1)
    try simp only [qf_1554 R_M_14, qa_41 R_M_14, qf_1536 R_M_14] at H
    exact qX_leaves_137 (by decide) (by decide) (s_1553_40 S_M_14) S_M_14 R_M_14 H (fun M1 r1 q1 q2 q3 u => K M1 r1 q1 q2 q3 (hF.trans u)) (fun v0 v1 v2 M1 r1 q1 q2 q3 u => KJ33 v0 v1 v2 M1 r1 q1 q2 q3 (hF.trans u))
  · skip
    replace hF := hF.trans (if_neg c1)
    replace H := z_nne (s_1545_40 S_M_14) H
    replace H := H.2
    try simp only [qf_1554 R_M_14, qa_41 R_M_14, qf_1536 R_M_14, qa_49 R_M_14] at H
    exact qX_leaves_137 (by decide) (by decide) (s_1553_40 S_M_14) S_M_14 R_M_14 H (fun M1 r1 q1 q2 q3 u => K M1 r1 q1 q2 q3 (hF.trans u)) (fun v0 v1 v2 M1 r1 q1 q2 q3 u => KJ33 v0 v1 v2 M1 r1 q1 q2 q3 (hF.trans u))
set_option maxRecDepth 100000 in
set_option maxHeartbeats 4000000 in
theorem qX_leaves_71 {n : Nat} {X : Prop} {Q : z_Mem → Prop} {QJ33 : Int32 → Int32 → Int32 → z_Mem → Prop} {x1 : Int32} {x2 : Int32} {x3 : Int32} {x4 : Int32} {t0 : Int32} {M : z_Mem} {r : q_R} (S : y_S n M) (R : q_rep n M r) (H : P_X12_leaves_71 (n + 40) Q QJ33 x1 x2 x3 x4 t0 M) (K : ∀ M1 r1, Q M1 → y_S n M1 → q_rep n M1 r1 → qF_leaves_71 x1 x2 x3 x4 t0 r = (.inr r1) → X) (KJ33 : ∀ v0 v1 v2 M1 r1, QJ33 v0 v1 v2 M1 → y_S n M1 → q_rep n M1 r1 → qF_leaves_71 x1 x2 x3 x4 t0 r = (.inl (v0, v1, v2, r1)) → X) : X := by
  have hF := qE_leaves_71 x1 x2 x3 x4 t0 r
  unfold P_X12_leaves_71 at H
  replace H := z_nne (s_1544_40 S) H
  replace H := H.2
  rcases q_em H with ⟨c1, H⟩ | ⟨c1, H⟩
  · skip
    replace hF := hF.trans (if_pos c1)
    try simp only [qa_48 R] at H
    exact qX_leaves_90 (by decide) (by decide) (s_1544_40 S) S R H (fun M1 r1 q1 q2 q3 u => K M1 r1 q1 q2 q3 (hF.trans u)) (fun v0 v1 v2 M1 r1 q1 q2 q3 u => KJ33 v0 v1 v2 M1 r1 q1 q2 q3 (hF.trans u))
  · skip
    replace hF := hF.trans (if_neg c1)
    try simp only [qa_48 R] at H
    exact qX_leaves_90 (by decide) (by decide) (s_1544_40 S) S R H (fun M1 r1 q1 q2 q3 u => K M1 r1 q1 q2 q3 (hF.trans u)) (fun v0 v1 v2 M1 r1 q1 q2 q3 u => KJ33 v0 v1 v2 M1 r1 q1 q2 q3 (hF.trans u))
set_option maxRecDepth 100000 in
set_option maxHeartbeats 4000000 in
theorem qX_leaves_157 {n : Nat} {X : Prop} {Q : z_Mem → Prop} : ∀ (m : Nat) {x1 : Int32} {x2 : Int32} {x3 : Int32} {M : z_Mem} {r : q_R} (S : y_S n M) (R : q_rep n M r) (H : P_X12_leaves_157 (n + 40) Q m x1 x2 x3 M) (K : ∀ M1 r1, Q M1 → y_S n M1 → q_rep n M1 r1 → qF_leaves_157 x1 x2 x3 r = r1 → X), X := by
  intro m
  induction m with
  | zero => intros; rename_i H _; exact False.elim H
  | succ m ih =>
    intro x1 x2 x3 M r S R H K
    have hF := qE_leaves_157 x1 x2 x3 r
    unfold P_X12_leaves_157 at H
    replace H := z_nne (s_1547_40 S) H
    replace H := H.2
    try simp only [qa_51 R] at H
    rcases q_em H with ⟨c1, H⟩ | ⟨c1, H⟩
    · skip
      replace hF := hF.trans (if_pos c1)
      replace H := z_nne (s_1547_40 S) H
      replace H := H.2
      replace H := H.2
      try simp only [qa_51 R] at H
      obtain ⟨M_37, e_M_37, H⟩ := q_all H
      have S_M_37 : y_S n M_37 := by rw [e_M_37]; exact S_sai S
      have R_M_37 := rep_sai R (by decide) (by decide) e_M_37
      obtain ⟨r_M_37, h_M_37⟩ := q_gen R_M_37
      replace hF := hF.trans (q_ste h_M_37.2)
      replace R_M_37 := h_M_37.1
      exact K _ _ H S_M_37 R_M_37 (qUr_leaves_157 hF)
    · skip
      replace hF := hF.trans (if_neg c1)
      replace H := z_nne (s_1546_40 S) H
      replace H := H.2
      replace H := z_nne (s_1546_40 S) H
      replace H := H.2
      try simp only [qa_50 R] at H
      obtain ⟨M_44, e_M_44, H⟩ := q_all H
      have S_M_44 : y_S n M_44 := by rw [e_M_44]; exact S_sai S
      have R_M_44 := rep_sai R (by decide) (by decide) e_M_44
      obtain ⟨r_M_44, h_M_44⟩ := q_gen R_M_44
      replace hF := hF.trans (q_ste h_M_44.2)
      replace R_M_44 := h_M_44.1
      obtain ⟨x_45, e_x_45, H⟩ := q_all H
      replace hF := hF.trans (q_ste e_x_45)
      replace hF := qUl_leaves_157 hF
      exact ih S_M_44 R_M_44 H (fun M1 r1 q1 q2 q3 u => K M1 r1 q1 q2 q3 (hF.trans u))
set_option maxRecDepth 100000 in
set_option maxHeartbeats 4000000 in
theorem qX_leaves_33 {n : Nat} {X : Prop} {Q : z_Mem → Prop} : ∀ (m : Nat) {x1 : Int32} {x2 : Int32} {x3 : Int32} {M : z_Mem} {r : q_R} (S : y_S n M) (R : q_rep n M r) (H : P_X12_leaves_33 (n + 40) Q m x1 x2 x3 M) (K : ∀ M1 r1, Q M1 → y_S n M1 → q_rep n M1 r1 → qF_leaves_33 x1 x2 x3 r = r1 → X), X := by
  intro m
  induction m with
  | zero => intros; rename_i H _; exact False.elim H
  | succ m ih =>
    intro x1 x2 x3 M r S R H K
    have hF := qE_leaves_33 x1 x2 x3 r
    unfold P_X12_leaves_33 at H
    rcases q_em H with ⟨c1, H⟩ | ⟨c1, H⟩
    · skip
      replace hF := hF.trans (if_pos c1)
      obtain ⟨m, H⟩ := H
      exact qX_leaves_157 m S R H (fun M1 r1 q1 q2 q3 u => K M1 r1 q1 q2 q3 (qUr_leaves_33 (hF.trans (congrArg Sum.inr u))))
    · skip
      replace hF := hF.trans (if_neg c1)
      replace H := z_nne (s_1546_40 S) H
      replace H := H.2
      try simp only [qa_50 R] at H
      obtain ⟨x_51, e_x_51, H⟩ := q_all H
      replace hF := hF.trans (q_ste e_x_51)
      rcases q_em H with ⟨c2, H⟩ | ⟨c2, H⟩
      · skip
        replace hF := hF.trans (if_pos c2)
        exact qX_leaves_149 S R H (fun M1 r1 q1 q2 q3 u => K M1 r1 q1 q2 q3 (qUr_leaves_33 (hF.trans u))) (fun v0 v1 v2 M1 r1 q1 q2 q3 u => ih q2 q3 q1 (fun M1 r1 q1 q2 q3 u2 => K M1 r1 q1 q2 q3 ((qUl_leaves_33 (hF.trans u)).trans u2))) 
      · skip
        replace hF := hF.trans (if_neg c2)
        replace H := z_nne (s_1544_40 S) H
        replace H := H.2
        try simp only [qa_48 R] at H
        rcases q_em H with ⟨c3, H⟩ | ⟨c3, H⟩
        · skip
          replace hF := hF.trans (if_pos c3)
          exact qX_leaves_71 S R H (fun M1 r1 q1 q2 q3 u => K M1 r1 q1 q2 q3 (qUr_leaves_33 (hF.trans u))) (fun v0 v1 v2 M1 r1 q1 q2 q3 u => ih q2 q3 q1 (fun M1 r1 q1 q2 q3 u2 => K M1 r1 q1 q2 q3 ((qUl_leaves_33 (hF.trans u)).trans u2))) 
        · skip
          replace hF := hF.trans (if_neg c3)
          exact qX_leaves_71 S R H (fun M1 r1 q1 q2 q3 u => K M1 r1 q1 q2 q3 (qUr_leaves_33 (hF.trans u))) (fun v0 v1 v2 M1 r1 q1 q2 q3 u => ih q2 q3 q1 (fun M1 r1 q1 q2 q3 u2 => K M1 r1 q1 q2 q3 ((qUl_leaves_33 (hF.trans u)).trans u2))) 
set_option maxRecDepth 100000 in
set_option maxHeartbeats 4000000 in
theorem qX_leaves_30 {n : Nat} {X : Prop} {Q : z_Mem → Prop} {x1 : Int32} {t0 : Int32} {M : z_Mem} {r : q_R} (S : y_S n M) (R : q_rep n M r) (H : P_X12_leaves_30 (n + 40) Q x1 t0 M) (K : ∀ M1 r1, Q M1 → y_S n M1 → q_rep n M1 r1 → qF_leaves_30 x1 t0 r = r1 → X) : X := by
  have hF := qE_leaves_30 x1 t0 r
  unfold P_X12_leaves_30 at H
  obtain ⟨m, H⟩ := H
  exact qX_leaves_33 m S R H (fun M1 r1 q1 q2 q3 u => K M1 r1 q1 q2 q3 (hF.trans u))
set_option maxRecDepth 100000 in
set_option maxHeartbeats 4000000 in
theorem qX_leaves {n : Nat} {X : Prop} {Q : z_Mem → Prop} {p1 : Int32} {M : z_Mem} {r : q_R} (S : y_S n M) (R : q_rep n M r) (H : P_X12_leaves (n + 40) p1 M Q) (K : ∀ M1 r1, Q M1 → y_S n M1 → q_rep n M1 r1 → qF_leaves p1 r = r1 → X) : X := by
  have hF := qE_leaves p1 r
  unfold P_X12_leaves at H
  replace H := z_nne (s_1547_40 S) H
  replace H := H.2
  replace H := z_nne (s_1538_40 S) H
  replace H := H.2
  try simp only [qa_42 R, qa_51 R] at H
  rcases q_em H with ⟨c1, H⟩ | ⟨c1, H⟩
  · skip
    replace hF := hF.trans (if_pos c1)
    replace H := z_nne (s_1538_40 S) H
    replace H := H.2
    try simp only [qa_42 R] at H
    exact qX_leaves_30 S R H (fun M1 r1 q1 q2 q3 u => K M1 r1 q1 q2 q3 (hF.trans u))
  · skip
    replace hF := hF.trans (if_neg c1)
    replace H := z_nne (s_1547_40 S) H
    replace H := H.2
    try simp only [qa_51 R] at H
    exact qX_leaves_30 S R H (fun M1 r1 q1 q2 q3 u => K M1 r1 q1 q2 q3 (hF.trans u))
set_option maxRecDepth 100000 in
set_option maxHeartbeats 4000000 in
theorem qX_gotOf_2 {n : Nat} {X : Prop} {Q : Int32 → z_Mem → Prop} : ∀ (m : Nat) {x1 : Int32} {x2 : Int32} {M : z_Mem} {r : q_R} (S : y_S n M) (R : q_rep n M r) (H : P_X12_gotOf_2 (n + 40) Q m x1 x2 M) (K : ∀ x M1 r1, Q x M1 → y_S n M1 → q_rep n M1 r1 → qF_gotOf_2 x1 x2 r = (x, r1) → X), X := by
  intro m
  induction m with
  | zero => intros; rename_i H _; exact False.elim H
  | succ m ih =>
    intro x1 x2 M r S R H K
    have hF := qE_gotOf_2 x1 x2 r
    unfold P_X12_gotOf_2 at H
    rcases q_em H with ⟨c1, H⟩ | ⟨c1, H⟩
    · skip
      replace hF := hF.trans (if_pos c1)
      exact K _ _ _ H S R (qUr_gotOf_2 hF)
    · skip
      replace hF := hF.trans (if_neg c1)
      replace H := z_nne (s_1570_40 S) H
      replace H := H.2
      try simp only [qa_64 R] at H
      rcases q_em H with ⟨c2, H⟩ | ⟨c2, H⟩
      · skip
        replace hF := hF.trans (if_pos c2)
        exact K _ _ _ H S R (qUr_gotOf_2 hF)
      · skip
        replace hF := hF.trans (if_neg c2)
        obtain ⟨x_6, e_x_6, H⟩ := q_all H
        replace hF := hF.trans (q_ste e_x_6)
        replace hF := qUl_gotOf_2 hF
        exact ih S R H (fun x M1 r1 q1 q2 q3 u => K x M1 r1 q1 q2 q3 (hF.trans u))
set_option maxRecDepth 100000 in
set_option maxHeartbeats 4000000 in
theorem qX_gotOf {n : Nat} {X : Prop} {Q : Int32 → z_Mem → Prop} {p1 : Int32} {M : z_Mem} {r : q_R} (S : y_S n M) (R : q_rep n M r) (H : P_X12_gotOf (n + 40) p1 M Q) (K : ∀ x M1 r1, Q x M1 → y_S n M1 → q_rep n M1 r1 → qF_gotOf p1 r = (x, r1) → X) : X := by
  have hF := qE_gotOf p1 r
  unfold P_X12_gotOf at H
  obtain ⟨m, H⟩ := H
  exact qX_gotOf_2 m S R H (fun x M1 r1 q1 q2 q3 u => K x M1 r1 q1 q2 q3 (hF.trans u))
set_option maxRecDepth 100000 in
set_option maxHeartbeats 4000000 in
theorem qX_acknowledges_86 {n : Nat} {X : Prop} {Q : z_Mem → Prop} {QJ14 : Int32 → Int32 → Int32 → z_Mem → Prop} {x1 : Int32} {x2 : Int32} {x3 : Int32} {M : z_Mem} {r : q_R} (S : y_S n M) (R : q_rep n M r) (H : P_X12_acknowledges_86 (n + 40) Q QJ14 x1 x2 x3 M) (K : ∀ M1 r1, Q M1 → y_S n M1 → q_rep n M1 r1 → qF_acknowledges_86 x1 x2 x3 r = (.inr r1) → X) (KJ14 : ∀ v0 v1 v2 M1 r1, QJ14 v0 v1 v2 M1 → y_S n M1 → q_rep n M1 r1 → qF_acknowledges_86 x1 x2 x3 r = (.inl (v0, v1, v2, r1)) → X) : X := by
  have hF := qE_acknowledges_86 x1 x2 x3 r
  unfold P_X12_acknowledges_86 at H
  obtain ⟨x_1, e_x_1, H⟩ := q_all H
  replace hF := hF.trans (q_ste e_x_1)
  exact KJ14 _ _ _ _ _ H S R hF
set_option maxRecDepth 100000 in
set_option maxHeartbeats 4000000 in
theorem qX_acknowledges_56 {n : Nat} {X : Prop} {Q : z_Mem → Prop} {QJ14 : Int32 → Int32 → Int32 → z_Mem → Prop} {x1 : Int32} {x2 : Int32} {x3 : Int32} {x4 : Int32} {M : z_Mem} {r : q_R} (S : y_S n M) (R : q_rep n M r) (H : P_X12_acknowledges_56 (n + 40) Q QJ14 x1 x2 x3 x4 M) (K : ∀ M1 r1, Q M1 → y_S n M1 → q_rep n M1 r1 → qF_acknowledges_56 x1 x2 x3 x4 r = (.inr r1) → X) (KJ14 : ∀ v0 v1 v2 M1 r1, QJ14 v0 v1 v2 M1 → y_S n M1 → q_rep n M1 r1 → qF_acknowledges_56 x1 x2 x3 x4 r = (.inl (v0, v1, v2, r1)) → X) : X := by
  have hF := qE_acknowledges_56 x1 x2 x3 x4 r
  unfold P_X12_acknowledges_56 at H
  replace H := z_nne (s_1560_40 S) H
  replace H := H.2
  obtain ⟨M_5, e_M_5, H⟩ := q_all H
  have S_M_5 : y_S n M_5 := by rw [e_M_5]; exact S_sai S
  have R_M_5 := rep_sai R (by decide) (by decide) e_M_5
  obtain ⟨r_M_5, h_M_5⟩ := q_gen R_M_5
  replace hF := hF.trans (q_ste h_M_5.2)
  replace R_M_5 := h_M_5.1
  replace H := z_nne (s_1560_40 S_M_5) H
  replace H := H.2
  obtain ⟨M_9, e_M_9, H⟩ := q_all H
  have S_M_9 : y_S n M_9 := by rw [e_M_9]; exact S_sai S_M_5
  have R_M_9 := rep_sai R_M_5 (by decide) (by decide) e_M_9
  obtain ⟨r_M_9, h_M_9⟩ := q_gen R_M_9
  replace hF := hF.trans (q_ste h_M_9.2)
  replace R_M_9 := h_M_9.1
  obtain ⟨x_10, e_x_10, H⟩ := q_all H
  replace hF := hF.trans (q_ste e_x_10)
  exact qX_acknowledges_86 S_M_9 R_M_9 H (fun M1 r1 q1 q2 q3 u => K M1 r1 q1 q2 q3 (hF.trans u)) (fun v0 v1 v2 M1 r1 q1 q2 q3 u => KJ14 v0 v1 v2 M1 r1 q1 q2 q3 (hF.trans u))
set_option maxRecDepth 100000 in
set_option maxHeartbeats 4000000 in
theorem qX_acknowledges_35 {n : Nat} {X : Prop} {Q : z_Mem → Prop} {QJ14 : Int32 → Int32 → Int32 → z_Mem → Prop} : ∀ (m : Nat) {x1 : Int32} {x2 : Int32} {x3 : Int32} {x4 : Int32} {M : z_Mem} {r : q_R} (S : y_S n M) (R : q_rep n M r) (H : P_X12_acknowledges_35 (n + 40) Q QJ14 m x1 x2 x3 x4 M) (K : ∀ M1 r1, Q M1 → y_S n M1 → q_rep n M1 r1 → qF_acknowledges_35 x1 x2 x3 x4 r = (.inr r1) → X) (KJ14 : ∀ v0 v1 v2 M1 r1, QJ14 v0 v1 v2 M1 → y_S n M1 → q_rep n M1 r1 → qF_acknowledges_35 x1 x2 x3 x4 r = (.inl (v0, v1, v2, r1)) → X), X := by
  intro m
  induction m with
  | zero => intros; rename_i H _ _; exact False.elim H
  | succ m ih =>
    intro x1 x2 x3 x4 M r S R H K KJ14
    have hF := qE_acknowledges_35 x1 x2 x3 x4 r
    unfold P_X12_acknowledges_35 at H
    rcases q_em H with ⟨c1, H⟩ | ⟨c1, H⟩
    · skip
      replace hF := hF.trans (if_pos c1)
      exact qX_acknowledges_56 S R H (fun M1 r1 q1 q2 q3 u => K M1 r1 q1 q2 q3 (qUr_acknowledges_35 (hF.trans (congrArg Sum.inr u)))) (fun w0 w1 w2 M1 r1 q1 q2 q3 u => KJ14 w0 w1 w2 M1 r1 q1 q2 q3 (qUr_acknowledges_35 (hF.trans (congrArg Sum.inr u))))
    · skip
      replace hF := hF.trans (if_neg c1)
      replace H := z_nne (s_1569_40 S) H
      replace H := H.2
      try simp only [qa_63 R] at H
      rcases q_em H with ⟨c2, H⟩ | ⟨c2, H⟩
      · skip
        replace hF := hF.trans (if_pos c2)
        exact qX_acknowledges_56 S R H (fun M1 r1 q1 q2 q3 u => K M1 r1 q1 q2 q3 (qUr_acknowledges_35 (hF.trans (congrArg Sum.inr u)))) (fun w0 w1 w2 M1 r1 q1 q2 q3 u => KJ14 w0 w1 w2 M1 r1 q1 q2 q3 (qUr_acknowledges_35 (hF.trans (congrArg Sum.inr u))))
      · skip
        replace hF := hF.trans (if_neg c2)
        obtain ⟨x_16, e_x_16, H⟩ := q_all H
        replace hF := hF.trans (q_ste e_x_16)
        replace hF := qUl_acknowledges_35 hF
        exact ih S R H (fun M1 r1 q1 q2 q3 u => K M1 r1 q1 q2 q3 (hF.trans u)) (fun v0 v1 v2 M1 r1 q1 q2 q3 u => KJ14 v0 v1 v2 M1 r1 q1 q2 q3 (hF.trans u))
set_option maxRecDepth 100000 in
set_option maxHeartbeats 4000000 in
theorem qX_acknowledges_119 {n : Nat} {X : Prop} {Q : z_Mem → Prop} : ∀ (m : Nat) {x1 : Int32} {x4 : Int32} {x5 : Int32} {M : z_Mem} {r : q_R} (S : y_S n M) (R : q_rep n M r) (H : P_X12_acknowledges_119 (n + 40) Q m x1 x4 x5 M) (K : ∀ M1 r1, Q M1 → y_S n M1 → q_rep n M1 r1 → qF_acknowledges_119 x1 x4 x5 r = r1 → X), X := by
  intro m
  induction m with
  | zero => intros; rename_i H _; exact False.elim H
  | succ m ih =>
    intro x1 x4 x5 M r S R H K
    have hF := qE_acknowledges_119 x1 x4 x5 r
    unfold P_X12_acknowledges_119 at H
    rcases q_em H with ⟨c1, H⟩ | ⟨c1, H⟩
    · skip
      replace hF := hF.trans (if_pos c1)
      replace H := z_nne (s_1560_40 S) H
      replace H := H.2
      obtain ⟨M_21, e_M_21, H⟩ := q_all H
      have S_M_21 : y_S n M_21 := by rw [e_M_21]; exact S_sai S
      have R_M_21 := rep_sai R (by decide) (by decide) e_M_21
      obtain ⟨r_M_21, h_M_21⟩ := q_gen R_M_21
      replace hF := hF.trans (q_ste h_M_21.2)
      replace R_M_21 := h_M_21.1
      try simp only [qf_1561 R_M_21] at H
      obtain ⟨M_23, e_M_23, H⟩ := q_all H
      have S_M_23 : y_S n M_23 := by rw [e_M_23]; exact S_sfi S_M_21
      have R_M_23 := rep_sfi R_M_21 e_M_23
      obtain ⟨r_M_23, h_M_23⟩ := q_gen R_M_23
      replace hF := hF.trans (q_ste h_M_23.2)
      replace R_M_23 := h_M_23.1
      replace H := z_nne (s_1629_40 S_M_23) H
      replace H := H.2
      replace H := H.2
      try simp only [qa_106 R_M_23] at H
      obtain ⟨M_28, e_M_28, H⟩ := q_all H
      have S_M_28 : y_S n M_28 := by rw [e_M_28]; exact S_sai S_M_23
      have R_M_28 := rep_sai R_M_23 (by decide) (by decide) e_M_28
      obtain ⟨r_M_28, h_M_28⟩ := q_gen R_M_28
      replace hF := hF.trans (q_ste h_M_28.2)
      replace R_M_28 := h_M_28.1
      obtain ⟨M_29, e_M_29, H⟩ := q_all H
      have S_M_29 : y_S n M_29 := by rw [e_M_29]; exact S_sfi S_M_28
      have R_M_29 := rep_sfi R_M_28 e_M_29
      obtain ⟨r_M_29, h_M_29⟩ := q_gen R_M_29
      replace hF := hF.trans (q_ste h_M_29.2)
      replace R_M_29 := h_M_29.1
      obtain ⟨M_30, e_M_30, H⟩ := q_all H
      have S_M_30 : y_S n M_30 := by rw [e_M_30]; exact S_sfi S_M_29
      have R_M_30 := rep_sfi R_M_29 e_M_30
      obtain ⟨r_M_30, h_M_30⟩ := q_gen R_M_30
      replace hF := hF.trans (q_ste h_M_30.2)
      replace R_M_30 := h_M_30.1
      try simp only [qf_1575 R_M_30, qf_1561 R_M_30] at H
      refine qX_answers S_M_30 R_M_30 H (fun M_33 r_M_33 H S_M_33 R_M_33 u => ?_)
      replace hF := hF.trans (q_ste u.symm)
      exact K _ _ H S_M_33 R_M_33 (qUr_acknowledges_119 hF)
    · skip
      replace hF := hF.trans (if_neg c1)
      replace H := z_nne (s_1571_40 S) H
      replace H := H.2
      replace H := z_nne (s_1560_40 S) H
      replace H := H.2
      try simp only [qa_65 R] at H
      obtain ⟨M_40, e_M_40, H⟩ := q_all H
      have S_M_40 : y_S n M_40 := by rw [e_M_40]; exact S_sai S
      have R_M_40 := rep_sai R (by decide) (by decide) e_M_40
      obtain ⟨r_M_40, h_M_40⟩ := q_gen R_M_40
      replace hF := hF.trans (q_ste h_M_40.2)
      replace R_M_40 := h_M_40.1
      replace H := z_nne (s_1571_40 S_M_40) H
      replace H := H.2
      try simp only [qa_65 R_M_40] at H
      obtain ⟨x_44, e_x_44, H⟩ := q_all H
      replace hF := hF.trans (q_ste e_x_44)
      obtain ⟨x_45, e_x_45, H⟩ := q_all H
      replace hF := hF.trans (q_ste e_x_45)
      replace hF := qUl_acknowledges_119 hF
      exact ih S_M_40 R_M_40 H (fun M1 r1 q1 q2 q3 u => K M1 r1 q1 q2 q3 (hF.trans u))
set_option maxRecDepth 100000 in
set_option maxHeartbeats 4000000 in
theorem qX_acknowledges_92 {n : Nat} {X : Prop} {Q : z_Mem → Prop} {x1 : Int32} {x2 : Int32} {M : z_Mem} {r : q_R} (S : y_S n M) (R : q_rep n M r) (H : P_X12_acknowledges_92 (n + 40) Q x1 x2 M) (K : ∀ M1 r1, Q M1 → y_S n M1 → q_rep n M1 r1 → qF_acknowledges_92 x1 x2 r = r1 → X) : X := by
  have hF := qE_acknowledges_92 x1 x2 r
  unfold P_X12_acknowledges_92 at H
  replace H := z_nne (s_1560_40 S) H
  replace H := H.2
  obtain ⟨M_49, e_M_49, H⟩ := q_all H
  have S_M_49 : y_S n M_49 := by rw [e_M_49]; exact S_sai S
  have R_M_49 := rep_sai R (by decide) (by decide) e_M_49
  obtain ⟨r_M_49, h_M_49⟩ := q_gen R_M_49
  replace hF := hF.trans (q_ste h_M_49.2)
  replace R_M_49 := h_M_49.1
  replace H := z_nne (s_1560_40 S_M_49) H
  replace H := H.2
  try simp only [qf_1576 R_M_49] at H
  obtain ⟨M_54, e_M_54, H⟩ := q_all H
  have S_M_54 : y_S n M_54 := by rw [e_M_54]; exact S_sai S_M_49
  have R_M_54 := rep_sai R_M_49 (by decide) (by decide) e_M_54
  obtain ⟨r_M_54, h_M_54⟩ := q_gen R_M_54
  replace hF := hF.trans (q_ste h_M_54.2)
  replace R_M_54 := h_M_54.1
  obtain ⟨m, H⟩ := H
  exact qX_acknowledges_119 m S_M_54 R_M_54 H (fun M1 r1 q1 q2 q3 u => K M1 r1 q1 q2 q3 (hF.trans u))
set_option maxRecDepth 100000 in
set_option maxHeartbeats 4000000 in
theorem qX_acknowledges_14 {n : Nat} {X : Prop} {Q : z_Mem → Prop} : ∀ (m : Nat) {x1 : Int32} {x2 : Int32} {x3 : Int32} {M : z_Mem} {r : q_R} (S : y_S n M) (R : q_rep n M r) (H : P_X12_acknowledges_14 (n + 40) Q m x1 x2 x3 M) (K : ∀ M1 r1, Q M1 → y_S n M1 → q_rep n M1 r1 → qF_acknowledges_14 x1 x2 x3 r = r1 → X), X := by
  intro m
  induction m with
  | zero => intros; rename_i H _; exact False.elim H
  | succ m ih =>
    intro x1 x2 x3 M r S R H K
    have hF := qE_acknowledges_14 x1 x2 x3 r
    unfold P_X12_acknowledges_14 at H
    rcases q_em H with ⟨c1, H⟩ | ⟨c1, H⟩
    · skip
      replace hF := hF.trans (if_pos c1)
      exact qX_acknowledges_92 S R H (fun M1 r1 q1 q2 q3 u => K M1 r1 q1 q2 q3 (qUr_acknowledges_14 (hF.trans (congrArg Sum.inr u))))
    · skip
      replace hF := hF.trans (if_neg c1)
      rcases q_em H with ⟨c2, H⟩ | ⟨c2, H⟩
      · skip
        replace hF := hF.trans (if_pos c2)
        exact qX_acknowledges_92 S R H (fun M1 r1 q1 q2 q3 u => K M1 r1 q1 q2 q3 (qUr_acknowledges_14 (hF.trans (congrArg Sum.inr u))))
      · skip
        replace hF := hF.trans (if_neg c2)
        replace H := z_nne (s_1569_40 S) H
        replace H := H.2
        try simp only [qa_63 R] at H
        rcases q_em H with ⟨c3, H⟩ | ⟨c3, H⟩
        · skip
          replace hF := hF.trans (if_pos c3)
          exact qX_acknowledges_86 S R H (fun M1 r1 q1 q2 q3 u => K M1 r1 q1 q2 q3 (qUr_acknowledges_14 (hF.trans u))) (fun v0 v1 v2 M1 r1 q1 q2 q3 u => ih q2 q3 q1 (fun M1 r1 q1 q2 q3 u2 => K M1 r1 q1 q2 q3 ((qUl_acknowledges_14 (hF.trans u)).trans u2))) 
        · skip
          replace hF := hF.trans (if_neg c3)
          obtain ⟨m, H⟩ := H
          exact qX_acknowledges_35 m S R H (fun M1 r1 q1 q2 q3 u => K M1 r1 q1 q2 q3 (qUr_acknowledges_14 (hF.trans u))) (fun v0 v1 v2 M1 r1 q1 q2 q3 u => ih q2 q3 q1 (fun M1 r1 q1 q2 q3 u2 => K M1 r1 q1 q2 q3 ((qUl_acknowledges_14 (hF.trans u)).trans u2))) 
set_option maxRecDepth 100000 in
set_option maxHeartbeats 4000000 in
theorem qX_acknowledges {n : Nat} {X : Prop} {Q : z_Mem → Prop} {M : z_Mem} {r : q_R} (S : y_S n M) (R : q_rep n M r) (H : P_X12_acknowledges (n + 40) M Q) (K : ∀ M1 r1, Q M1 → y_S n M1 → q_rep n M1 r1 → qF_acknowledges r = r1 → X) : X := by
  have hF := qE_acknowledges r
  unfold P_X12_acknowledges at H
  try simp only [qf_1561 R] at H
  obtain ⟨x_64, e_x_64, H⟩ := q_all H
  replace hF := hF.trans (q_ste e_x_64)
  obtain ⟨m, H⟩ := H
  exact qX_acknowledges_14 m S R H (fun M1 r1 q1 q2 q3 u => K M1 r1 q1 q2 q3 (hF.trans u))
set_option maxRecDepth 100000 in
set_option maxHeartbeats 4000000 in
theorem qX_isByKey {n : Nat} {X : Prop} {Q : Int32 → z_Mem → Prop} {p1 : Int32} {M : z_Mem} {r : q_R} (S : y_S n M) (R : q_rep n M r) (H : P_X12_isByKey (n + 40) p1 M Q) (K : ∀ x M1 r1, Q x M1 → y_S n M1 → q_rep n M1 r1 → qF_isByKey p1 r = (x, r1) → X) : X := by
  have hF := qE_isByKey p1 r
  unfold P_X12_isByKey at H
  try simp only [qf_1566 R] at H
  rcases q_em H with ⟨c1, H⟩ | ⟨c1, H⟩
  · skip
    replace hF := hF.trans (if_pos c1)
    exact K _ _ _ H S R hF
  · skip
    replace hF := hF.trans (if_neg c1)
    try simp only [qf_1567 R] at H
    rcases q_em H with ⟨c2, H⟩ | ⟨c2, H⟩
    · skip
      replace hF := hF.trans (if_pos c2)
      try simp only [qf_1536 R, qf_1568 R] at H
      rcases q_em H with ⟨c3, H⟩ | ⟨c3, H⟩
      · skip
        replace hF := hF.trans (if_pos c3)
        exact K _ _ _ H S R hF
      · skip
        replace hF := hF.trans (if_neg c3)
        exact K _ _ _ H S R hF
    · skip
      replace hF := hF.trans (if_neg c2)
      exact K _ _ _ H S R hF
set_option maxRecDepth 100000 in
set_option maxHeartbeats 4000000 in
theorem qX_takes_194 {n : Nat} {X : Prop} {Q : z_Mem → Prop} {x1 : Int32} {t0 : Int32} {M : z_Mem} {r : q_R} (S : y_S n M) (R : q_rep n M r) (H : P_X12_takes_194 (n + 40) Q x1 t0 M) (K : ∀ M1 r1, Q M1 → y_S n M1 → q_rep n M1 r1 → qF_takes_194 x1 t0 r = r1 → X) : X := by
  have hF := qE_takes_194 x1 t0 r
  unfold P_X12_takes_194 at H
  try simp only [qf_1572 R] at H
  refine qX_max S R H (fun x_2 M_2 r_M_2 H S_M_2 R_M_2 u => ?_)
  replace hF := hF.trans (q_ste2 u)
  obtain ⟨M_3, e_M_3, H⟩ := q_all H
  have S_M_3 : y_S n M_3 := by rw [e_M_3]; exact S_sfi S_M_2
  have R_M_3 := rep_sfi R_M_2 e_M_3
  obtain ⟨r_M_3, h_M_3⟩ := q_gen R_M_3
  replace hF := hF.trans (q_ste h_M_3.2)
  replace R_M_3 := h_M_3.1
  try simp only [qf_1573 R_M_3] at H
  obtain ⟨M_5, e_M_5, H⟩ := q_all H
  have S_M_5 : y_S n M_5 := by rw [e_M_5]; exact S_sfi S_M_3
  have R_M_5 := rep_sfi R_M_3 e_M_5
  obtain ⟨r_M_5, h_M_5⟩ := q_gen R_M_5
  replace hF := hF.trans (q_ste h_M_5.2)
  replace R_M_5 := h_M_5.1
  replace H := z_nne (s_1601_40 S_M_5) H
  replace H := H.2
  try simp only [qa_79 R_M_5] at H
  rcases q_em H with ⟨c1, H⟩ | ⟨c1, H⟩
  · skip
    replace hF := hF.trans (if_pos c1)
    rcases q_em H with ⟨c2, H⟩ | ⟨c2, H⟩
    · skip
      replace hF := hF.trans (if_pos c2)
      refine qX_acknowledges S_M_5 R_M_5 H (fun M_12 r_M_12 H S_M_12 R_M_12 u => ?_)
      replace hF := hF.trans (q_ste u.symm)
      exact K _ _ H S_M_12 R_M_12 hF
    · skip
      replace hF := hF.trans (if_neg c2)
      try simp only [qf_1573 R_M_5] at H
      rcases q_em H with ⟨c3, H⟩ | ⟨c3, H⟩
      · skip
        replace hF := hF.trans (if_pos c3)
        refine qX_acknowledges S_M_5 R_M_5 H (fun M_17 r_M_17 H S_M_17 R_M_17 u => ?_)
        replace hF := hF.trans (q_ste u.symm)
        exact K _ _ H S_M_17 R_M_17 hF
      · skip
        replace hF := hF.trans (if_neg c3)
        try simp only [qf_1536 R_M_5] at H
        obtain ⟨M_16, e_M_16, H⟩ := q_all H
        have S_M_16 : y_S n M_16 := by rw [e_M_16]; exact S_sfi S_M_5
        have R_M_16 := rep_sfi R_M_5 e_M_16
        obtain ⟨r_M_16, h_M_16⟩ := q_gen R_M_16
        replace hF := hF.trans (q_ste h_M_16.2)
        replace R_M_16 := h_M_16.1
        exact K _ _ H S_M_16 R_M_16 hF
  · skip
    replace hF := hF.trans (if_neg c1)
    refine qX_acknowledges S_M_5 R_M_5 H (fun M_10 r_M_10 H S_M_10 R_M_10 u => ?_)
    replace hF := hF.trans (q_ste u.symm)
    exact K _ _ H S_M_10 R_M_10 hF
set_option maxRecDepth 100000 in
set_option maxHeartbeats 4000000 in
theorem qX_takes_138 {n : Nat} {X : Prop} {Q : z_Mem → Prop} : ∀ (m : Nat) {x1 : Int32} {x2 : Int32} {M : z_Mem} {r : q_R} (S : y_S n M) (R : q_rep n M r) (H : P_X12_takes_138 (n + 40) Q m x1 x2 M) (K : ∀ M1 r1, Q M1 → y_S n M1 → q_rep n M1 r1 → qF_takes_138 x1 x2 r = r1 → X), X := by
  intro m
  induction m with
  | zero => intros; rename_i H _; exact False.elim H
  | succ m ih =>
    intro x1 x2 M r S R H K
    have hF := qE_takes_138 x1 x2 r
    unfold P_X12_takes_138 at H
    replace H := z_nne (s_1597_40 S) H
    replace H := H.2
    try simp only [qa_75 R] at H
    rcases q_em H with ⟨c1, H⟩ | ⟨c1, H⟩
    · skip
      replace hF := hF.trans (if_pos c1)
      try simp only [qf_1572 R] at H
      rcases q_em H with ⟨c2, H⟩ | ⟨c2, H⟩
      · skip
        replace hF := hF.trans (if_pos c2)
        exact qX_takes_194 S R H (fun M1 r1 q1 q2 q3 u => K M1 r1 q1 q2 q3 (qUr_takes_138 (hF.trans (congrArg Sum.inr u))))
      · skip
        replace hF := hF.trans (if_neg c2)
        exact qX_takes_194 S R H (fun M1 r1 q1 q2 q3 u => K M1 r1 q1 q2 q3 (qUr_takes_138 (hF.trans (congrArg Sum.inr u))))
    · skip
      replace hF := hF.trans (if_neg c1)
      replace H := z_nne (s_1595_40 S) H
      replace H := H.2
      replace H := z_nne (s_1596_40 S) H
      replace H := H.2
      replace H := z_nne (s_1570_40 S) H
      replace H := H.2
      try simp only [qa_73 R, qa_74 R] at H
      obtain ⟨M_33, e_M_33, H⟩ := q_all H
      have S_M_33 : y_S n M_33 := by rw [e_M_33]; exact S_sai S
      have R_M_33 := rep_sai R (by decide) (by decide) e_M_33
      obtain ⟨r_M_33, h_M_33⟩ := q_gen R_M_33
      replace hF := hF.trans (q_ste h_M_33.2)
      replace R_M_33 := h_M_33.1
      obtain ⟨x_34, e_x_34, H⟩ := q_all H
      replace hF := hF.trans (q_ste e_x_34)
      replace hF := qUl_takes_138 hF
      exact ih S_M_33 R_M_33 H (fun M1 r1 q1 q2 q3 u => K M1 r1 q1 q2 q3 (hF.trans u))
set_option maxRecDepth 100000 in
set_option maxHeartbeats 4000000 in
theorem qX_takes_132 {n : Nat} {X : Prop} {Q : z_Mem → Prop} {x1 : Int32} {t1 : Int32} {t2 : Int32} {o_t0 : Option Nat} {M : z_Mem} {r : q_R} (ho_t0 : o_t0 = some (n + 40)) (S : y_S n M) (R : q_rep n M r) (H : P_X12_takes_132 (n + 40) Q x1 o_t0 t1 t2 M) (K : ∀ M1 r1, Q M1 → y_S n M1 → q_rep n M1 r1 → qF_takes_132 x1 t1 t2 r = r1 → X) : X := by
  subst ho_t0
  have hF := qE_takes_132 x1 t1 t2 r
  unfold P_X12_takes_132 at H
  replace H := z_nne rfl H
  obtain ⟨M_36, e_M_36, H⟩ := q_all H
  have S_M_36 : y_S n M_36 := by rw [e_M_36]; exact S_sfi S
  have R_M_36 := rep_sfi R e_M_36
  obtain ⟨r_M_36, h_M_36⟩ := q_gen R_M_36
  replace hF := hF.trans (q_ste h_M_36.2)
  replace R_M_36 := h_M_36.1
  obtain ⟨m, H⟩ := H
  exact qX_takes_138 m S_M_36 R_M_36 H (fun M1 r1 q1 q2 q3 u => K M1 r1 q1 q2 q3 (hF.trans u))
