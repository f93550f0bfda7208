/-! ===== THE REFERENCE: what comes out, 3 ===== -/
set_option maxRecDepth 100000 in
set_option maxHeartbeats 4000000 in
theorem qX_hearsAck_248 {n : Nat} {X : Prop} {Q : z_Mem → Prop} : ∀ (m : Nat) {x5 : Int32} {M : z_Mem} {r : q_R} (S : y_S n M) (R : q_rep n M r) (H : P_X12_hearsAck_248 (n + 40) Q m x5 M) (K : ∀ M1 r1, Q M1 → y_S n M1 → q_rep n M1 r1 → qF_hearsAck_248 x5 r = r1 → X), X := by
  intro m
  induction m with
  | zero => intros; rename_i H _; exact False.elim H
  | succ m ih =>
    intro x5 M r S R H K
    have hF := qE_hearsAck_248 x5 r
    unfold P_X12_hearsAck_248 at H
    rcases q_em H with ⟨c1, H⟩ | ⟨c1, H⟩
    · skip
      replace hF := hF.trans (if_pos c1)
      obtain ⟨m, H⟩ := H
      exact qX_hearsAck_271 m S R H (fun M1 r1 q1 q2 q3 u => K M1 r1 q1 q2 q3 (qUr_hearsAck_248 (hF.trans (congrArg Sum.inr u))))
    · skip
      replace hF := hF.trans (if_neg c1)
      replace H := z_nne (s_1619_40 S) H
      replace H := H.2
      obtain ⟨M_17, e_M_17, H⟩ := q_all H
      have S_M_17 : y_S n M_17 := by rw [e_M_17]; exact S_sai S
      have R_M_17 := rep_sai R (by decide) (by decide) e_M_17
      obtain ⟨r_M_17, h_M_17⟩ := q_gen R_M_17
      replace hF := hF.trans (q_ste h_M_17.2)
      replace R_M_17 := h_M_17.1
      obtain ⟨x_18, e_x_18, H⟩ := q_all H
      replace hF := hF.trans (q_ste e_x_18)
      replace hF := qUl_hearsAck_248 hF
      exact ih S_M_17 R_M_17 H (fun M1 r1 q1 q2 q3 u => K M1 r1 q1 q2 q3 (hF.trans u))
set_option maxRecDepth 100000 in
set_option maxHeartbeats 4000000 in
theorem qX_hearsAck_184 {n : Nat} {X : Prop} {Q : z_Mem → Prop} : ∀ (m : Nat) {x2 : Int32} {x5 : Int32} {M : z_Mem} {r : q_R} (S : y_S n M) (R : q_rep n M r) (H : P_X12_hearsAck_184 (n + 40) Q m x2 x5 M) (K : ∀ M1 r1, Q M1 → y_S n M1 → q_rep n M1 r1 → qF_hearsAck_184 x2 x5 r = r1 → X), X := by
  intro m
  induction m with
  | zero => intros; rename_i H _; exact False.elim H
  | succ m ih =>
    intro x2 x5 M r S R H K
    have hF := qE_hearsAck_184 x2 x5 r
    unfold P_X12_hearsAck_184 at H
    rcases q_em H with ⟨c1, H⟩ | ⟨c1, H⟩
    · skip
      replace hF := hF.trans (if_pos c1)
      replace H := z_nne (s_1560_40 S) H
      replace H := H.2
      try simp only [qf_1589 R, qa_61 R] at H
      refine qX_max S R H (fun x_24 M_24 r_M_24 H S_M_24 R_M_24 u => ?_)
      replace hF := hF.trans (q_ste2 u)
      obtain ⟨M_25, e_M_25, H⟩ := q_all H
      have S_M_25 : y_S n M_25 := by rw [e_M_25]; exact S_sfi S_M_24
      have R_M_25 := rep_sfi R_M_24 e_M_25
      obtain ⟨r_M_25, h_M_25⟩ := q_gen R_M_25
      replace hF := hF.trans (q_ste h_M_25.2)
      replace R_M_25 := h_M_25.1
      obtain ⟨m, H⟩ := H
      exact qX_hearsAck_248 m S_M_25 R_M_25 H (fun M1 r1 q1 q2 q3 u => K M1 r1 q1 q2 q3 (qUr_hearsAck_184 (hF.trans (congrArg Sum.inr u))))
    · skip
      replace hF := hF.trans (if_neg c1)
      replace H := z_nne (s_1588_40 S) H
      replace H := H.2
      replace H := z_nne (s_1560_40 S) H
      replace H := H.2
      try simp only [qa_68 R, qa_61 R] at H
      refine qX_max S R H (fun x_34 M_34 r_M_34 H S_M_34 R_M_34 u => ?_)
      replace hF := hF.trans (q_ste2 u)
      replace H := z_nne (s_1588_40 S) H
      replace H := H.2
      obtain ⟨M_37, e_M_37, H⟩ := q_all H
      have S_M_37 : y_S n M_37 := by rw [e_M_37]; exact S_sai S_M_34
      have R_M_37 := rep_sai R_M_34 (by decide) (by decide) e_M_37
      obtain ⟨r_M_37, h_M_37⟩ := q_gen R_M_37
      replace hF := hF.trans (q_ste h_M_37.2)
      replace R_M_37 := h_M_37.1
      obtain ⟨x_38, e_x_38, H⟩ := q_all H
      replace hF := hF.trans (q_ste e_x_38)
      replace hF := qUl_hearsAck_184 hF
      exact ih S_M_37 R_M_37 H (fun M1 r1 q1 q2 q3 u => K M1 r1 q1 q2 q3 (hF.trans u))
set_option maxRecDepth 100000 in
set_option maxHeartbeats 4000000 in
theorem qX_hearsAck_181 {n : Nat} {X : Prop} {Q : z_Mem → Prop} {x2 : Int32} {M : z_Mem} {r : q_R} (S : y_S n M) (R : q_rep n M r) (H : P_X12_hearsAck_181 (n + 40) Q x2 M) (K : ∀ M1 r1, Q M1 → y_S n M1 → q_rep n M1 r1 → qF_hearsAck_181 x2 r = r1 → X) : X := by
  have hF := qE_hearsAck_181 x2 r
  unfold P_X12_hearsAck_181 at H
  obtain ⟨m, H⟩ := H
  exact qX_hearsAck_184 m S R H (fun M1 r1 q1 q2 q3 u => K M1 r1 q1 q2 q3 (hF.trans u))
set_option maxRecDepth 100000 in
set_option maxHeartbeats 4000000 in
theorem qX_hearsAck_140 {n : Nat} {X : Prop} {Q : z_Mem → Prop} {x2 : Int32} {x3 : Int32} {M : z_Mem} {r : q_R} (S : y_S n M) (R : q_rep n M r) (H : P_X12_hearsAck_140 (n + 40) Q x2 x3 M) (K : ∀ M1 r1, Q M1 → y_S n M1 → q_rep n M1 r1 → qF_hearsAck_140 x2 x3 r = r1 → X) : X := by
  have hF := qE_hearsAck_140 x2 x3 r
  unfold P_X12_hearsAck_140 at H
  replace H := z_nne (s_1560_40 S) H
  replace H := H.2
  try simp only [qa_61 R, qf_1585 R] at H
  rcases q_em H with ⟨c1, H⟩ | ⟨c1, H⟩
  · skip
    replace hF := hF.trans (if_pos c1)
    exact qX_hearsAck_181 S R H (fun M1 r1 q1 q2 q3 u => K M1 r1 q1 q2 q3 (hF.trans u))
  · skip
    replace hF := hF.trans (if_neg c1)
    replace H := z_nne (s_1560_40 S) H
    replace H := H.2
    try simp only [qa_61 R] at H
    obtain ⟨M_48, e_M_48, H⟩ := q_all H
    have S_M_48 : y_S n M_48 := by rw [e_M_48]; exact S_sfi S
    have R_M_48 := rep_sfi R e_M_48
    obtain ⟨r_M_48, h_M_48⟩ := q_gen R_M_48
    replace hF := hF.trans (q_ste h_M_48.2)
    replace R_M_48 := h_M_48.1
    replace H := z_nne (s_1593_40 S_M_48) H
    replace H := H.2
    try simp only [qa_71 R_M_48] at H
    refine qX_harms S_M_48 R_M_48 H (fun M_52 r_M_52 H S_M_52 R_M_52 u => ?_)
    replace hF := hF.trans (q_ste u.symm)
    exact qX_hearsAck_181 S_M_52 R_M_52 H (fun M1 r1 q1 q2 q3 u => K M1 r1 q1 q2 q3 (hF.trans u))
set_option maxRecDepth 100000 in
set_option maxHeartbeats 4000000 in
theorem qX_hearsAck_58 {n : Nat} {X : Prop} {Q : z_Mem → Prop} : ∀ (m : Nat) {x2 : Int32} {x3 : Int32} {x4 : Int32} {x5 : Int32} {M : z_Mem} {r : q_R} (S : y_S n M) (R : q_rep n M r) (H : P_X12_hearsAck_58 (n + 40) Q m x2 x3 x4 x5 M) (K : ∀ M1 r1, Q M1 → y_S n M1 → q_rep n M1 r1 → qF_hearsAck_58 x2 x3 x4 x5 r = r1 → X), X := by
  intro m
  induction m with
  | zero => intros; rename_i H _; exact False.elim H
  | succ m ih =>
    intro x2 x3 x4 x5 M r S R H K
    have hF := qE_hearsAck_58 x2 x3 x4 x5 r
    unfold P_X12_hearsAck_58 at H
    rcases q_em H with ⟨c1, H⟩ | ⟨c1, H⟩
    · skip
      replace hF := hF.trans (if_pos c1)
      rcases q_em H with ⟨c2, H⟩ | ⟨c2, H⟩
      · skip
        replace hF := hF.trans (if_pos c2)
        exact qX_hearsAck_140 S R H (fun M1 r1 q1 q2 q3 u => K M1 r1 q1 q2 q3 (qUr_hearsAck_58 (hF.trans (congrArg Sum.inr u))))
      · skip
        replace hF := hF.trans (if_neg c2)
        replace H := z_nne (s_1593_40 S) H
        replace H := H.2
        replace H := z_nne (s_1594_40 S) H
        replace H := H.2
        try simp only [qa_71 R, qa_72 R, qf_1536 R] at H
        refine qX_measures S R H (fun M_62 r_M_62 H S_M_62 R_M_62 u => ?_)
        replace hF := hF.trans (q_ste u.symm)
        exact qX_hearsAck_140 S_M_62 R_M_62 H (fun M1 r1 q1 q2 q3 u => K M1 r1 q1 q2 q3 (qUr_hearsAck_58 (hF.trans (congrArg Sum.inr u))))
    · skip
      replace hF := hF.trans (if_neg c1)
      replace H := z_nne (s_1560_40 S) H
      replace H := H.2
      try simp only [qa_61 R] at H
      obtain ⟨x_66, e_x_66, H⟩ := q_all H
      replace hF := hF.trans (q_ste e_x_66)
      obtain ⟨m, H⟩ := H
      exact qX_hearsAck_78 m S R H (fun M1 r1 q1 q2 q3 u => K M1 r1 q1 q2 q3 (qUr_hearsAck_58 (hF.trans u))) (fun v0 v1 v2 v3 M1 r1 q1 q2 q3 u => ih q2 q3 q1 (fun M1 r1 q1 q2 q3 u2 => K M1 r1 q1 q2 q3 ((qUl_hearsAck_58 (hF.trans u)).trans u2))) 
set_option maxRecDepth 100000 in
set_option maxHeartbeats 4000000 in
theorem qX_hearsAck_46 {n : Nat} {X : Prop} {Q : z_Mem → Prop} {x2 : Int32} {x3 : Int32} {t0 : Int32} {M : z_Mem} {r : q_R} (S : y_S n M) (R : q_rep n M r) (H : P_X12_hearsAck_46 (n + 40) Q x2 x3 t0 M) (K : ∀ M1 r1, Q M1 → y_S n M1 → q_rep n M1 r1 → qF_hearsAck_46 x2 x3 t0 r = r1 → X) : X := by
  have hF := qE_hearsAck_46 x2 x3 t0 r
  unfold P_X12_hearsAck_46 at H
  replace H := z_nne (s_1560_40 S) H
  replace H := H.2
  try simp only [qa_61 R] at H
  obtain ⟨x_71, e_x_71, H⟩ := q_all H
  replace hF := hF.trans (q_ste e_x_71)
  obtain ⟨m, H⟩ := H
  exact qX_hearsAck_58 m S R H (fun M1 r1 q1 q2 q3 u => K M1 r1 q1 q2 q3 (hF.trans u))
set_option maxRecDepth 100000 in
set_option maxHeartbeats 4000000 in
theorem qX_hearsAck_45 {n : Nat} {X : Prop} {Q : z_Mem → Prop} {x2 : Int32} {x3 : Int32} {M : z_Mem} {r : q_R} (S : y_S n M) (R : q_rep n M r) (H : P_X12_hearsAck_45 (n + 40) Q x2 x3 M) (K : ∀ M1 r1, Q M1 → y_S n M1 → q_rep n M1 r1 → qF_hearsAck_45 x2 x3 r = r1 → X) : X := by
  have hF := qE_hearsAck_45 x2 x3 r
  unfold P_X12_hearsAck_45 at H
  exact qX_hearsAck_46 S R H (fun M1 r1 q1 q2 q3 u => K M1 r1 q1 q2 q3 (hF.trans u))
set_option maxRecDepth 100000 in
set_option maxHeartbeats 4000000 in
theorem qX_hearsAck_26 {n : Nat} {X : Prop} {Q : z_Mem → Prop} {x2 : Int32} {t0 : Int32} {M : z_Mem} {r : q_R} (S : y_S n M) (R : q_rep n M r) (H : P_X12_hearsAck_26 (n + 40) Q x2 t0 M) (K : ∀ M1 r1, Q M1 → y_S n M1 → q_rep n M1 r1 → qF_hearsAck_26 x2 t0 r = r1 → X) : X := by
  have hF := qE_hearsAck_26 x2 t0 r
  unfold P_X12_hearsAck_26 at H
  rcases q_em H with ⟨c1, H⟩ | ⟨c1, H⟩
  · skip
    replace hF := hF.trans (if_pos c1)
    exact qX_hearsAck_45 S R H (fun M1 r1 q1 q2 q3 u => K M1 r1 q1 q2 q3 (hF.trans u))
  · skip
    replace hF := hF.trans (if_neg c1)
    replace H := z_nne (s_1598_40 S) H
    replace H := H.2
    try simp only [qa_76 R] at H
    rcases q_em H with ⟨c2, H⟩ | ⟨c2, H⟩
    · skip
      replace hF := hF.trans (if_pos c2)
      exact qX_hearsAck_46 S R H (fun M1 r1 q1 q2 q3 u => K M1 r1 q1 q2 q3 (hF.trans u))
    · skip
      replace hF := hF.trans (if_neg c2)
      exact qX_hearsAck_45 S R H (fun M1 r1 q1 q2 q3 u => K M1 r1 q1 q2 q3 (hF.trans u))
set_option maxRecDepth 100000 in
set_option maxHeartbeats 4000000 in
theorem qX_hearsAck {n : Nat} {X : Prop} {Q : z_Mem → Prop} {p1 : Int32} {M : z_Mem} {r : q_R} (S : y_S n M) (R : q_rep n M r) (H : P_X12_hearsAck (n + 40) p1 M Q) (K : ∀ M1 r1, Q M1 → y_S n M1 → q_rep n M1 r1 → qF_hearsAck p1 r = r1 → X) : X := by
  have hF := qE_hearsAck p1 r
  unfold P_X12_hearsAck at H
  obtain ⟨x_78, e_x_78, H⟩ := q_all H
  replace hF := hF.trans (q_ste e_x_78)
  replace H := z_nne (s_1560_40 S) H
  replace H := H.2
  try simp only [qa_61 R] at H
  rcases q_em H with ⟨c1, H⟩ | ⟨c1, H⟩
  · skip
    replace hF := hF.trans (if_pos c1)
    exact qX_hearsAck_26 S R H (fun M1 r1 q1 q2 q3 u => K M1 r1 q1 q2 q3 (hF.trans u))
  · skip
    replace hF := hF.trans (if_neg c1)
    replace H := z_nne (s_1560_40 S) H
    replace H := H.2
    try simp only [qa_61 R] at H
    exact qX_hearsAck_26 S R H (fun M1 r1 q1 q2 q3 u => K M1 r1 q1 q2 q3 (hF.trans u))
set_option maxRecDepth 100000 in
set_option maxHeartbeats 4000000 in
theorem qX_saysHello {n : Nat} {X : Prop} {Q : z_Mem → Prop} {M : z_Mem} {r : q_R} (S : y_S n M) (R : q_rep n M r) (H : P_X12_saysHello (n + 40) M Q) (K : ∀ M1 r1, Q M1 → y_S n M1 → q_rep n M1 r1 → qF_saysHello r = r1 → X) : X := by
  have hF := qE_saysHello r
  unfold P_X12_saysHello at H
  try simp only [qf_1536 R] at H
  obtain ⟨M_2, e_M_2, H⟩ := q_all H
  have S_M_2 : y_S n M_2 := by rw [e_M_2]; exact S_sfi S
  have R_M_2 := rep_sfi R e_M_2
  obtain ⟨r_M_2, h_M_2⟩ := q_gen R_M_2
  replace hF := hF.trans (q_ste h_M_2.2)
  replace R_M_2 := h_M_2.1
  replace H := z_nne (s_1629_40 S_M_2) H
  replace H := H.2
  replace H := H.2
  try simp only [qa_106 R_M_2] at H
  obtain ⟨M_7, e_M_7, H⟩ := q_all H
  have S_M_7 : y_S n M_7 := by rw [e_M_7]; exact S_sai S_M_2
  have R_M_7 := rep_sai R_M_2 (by decide) (by decide) e_M_7
  obtain ⟨r_M_7, h_M_7⟩ := q_gen R_M_7
  replace hF := hF.trans (q_ste h_M_7.2)
  replace R_M_7 := h_M_7.1
  try simp only [qf_1579 R_M_7] at H
  rcases q_em H with ⟨c1, H⟩ | ⟨c1, H⟩
  · skip
    replace hF := hF.trans (if_pos c1)
    try simp only [qf_1578 R_M_7] at H
    refine qX_puts S_M_7 R_M_7 H (fun M_11 r_M_11 H S_M_11 R_M_11 u => ?_)
    replace hF := hF.trans (q_ste u.symm)
    exact K _ _ H S_M_11 R_M_11 hF
  · skip
    replace hF := hF.trans (if_neg c1)
    try simp only [qf_1578 R_M_7] at H
    refine qX_puts S_M_7 R_M_7 H (fun M_12 r_M_12 H S_M_12 R_M_12 u => ?_)
    replace hF := hF.trans (q_ste u.symm)
    exact K _ _ H S_M_12 R_M_12 hF
set_option maxRecDepth 100000 in
set_option maxHeartbeats 4000000 in
theorem qX_hearsAccept_57 {n : Nat} {X : Prop} {Q : z_Mem → Prop} {QJ21 : Int32 → Int32 → z_Mem → Prop} {x1 : Int32} {x2 : Int32} {M : z_Mem} {r : q_R} (S : y_S n M) (R : q_rep n M r) (H : P_X12_hearsAccept_57 (n + 40) Q QJ21 x1 x2 M) (K : ∀ M1 r1, Q M1 → y_S n M1 → q_rep n M1 r1 → qF_hearsAccept_57 x1 x2 r = (.inr r1) → X) (KJ21 : ∀ v0 v1 M1 r1, QJ21 v0 v1 M1 → y_S n M1 → q_rep n M1 r1 → qF_hearsAccept_57 x1 x2 r = (.inl (v0, v1, r1)) → X) : X := by
  have hF := qE_hearsAccept_57 x1 x2 r
  unfold P_X12_hearsAccept_57 at H
  obtain ⟨x_1, e_x_1, H⟩ := q_all H
  replace hF := hF.trans (q_ste e_x_1)
  exact KJ21 _ _ _ _ H S R hF
set_option maxRecDepth 100000 in
set_option maxHeartbeats 4000000 in
theorem qX_hearsAccept_21 {n : Nat} {X : Prop} {Q : z_Mem → Prop} : ∀ (m : Nat) {x1 : Int32} {x2 : Int32} {M : z_Mem} {r : q_R} (S : y_S n M) (R : q_rep n M r) (H : P_X12_hearsAccept_21 (n + 40) Q m x1 x2 M) (K : ∀ M1 r1, Q M1 → y_S n M1 → q_rep n M1 r1 → qF_hearsAccept_21 x1 x2 r = r1 → X), X := by
  intro m
  induction m with
  | zero => intros; rename_i H _; exact False.elim H
  | succ m ih =>
    intro x1 x2 M r S R H K
    have hF := qE_hearsAccept_21 x1 x2 r
    unfold P_X12_hearsAccept_21 at H
    try simp only [qf_1606 R] at H
    rcases q_em H with ⟨c1, H⟩ | ⟨c1, H⟩
    · skip
      replace hF := hF.trans (if_pos c1)
      exact K _ _ H S R (qUr_hearsAccept_21 hF)
    · skip
      replace hF := hF.trans (if_neg c1)
      rcases q_em H with ⟨c2, H⟩ | ⟨c2, H⟩
      · skip
        replace hF := hF.trans (if_pos c2)
        replace H := z_nne (s_1602_40 S) H
        replace H := H.2
        try simp only [qa_80 R] at H
        rcases q_em H with ⟨c3, H⟩ | ⟨c3, H⟩
        · skip
          replace hF := hF.trans (if_pos c3)
          exact qX_hearsAccept_57 S R H (fun M1 r1 q1 q2 q3 u => K M1 r1 q1 q2 q3 (qUr_hearsAccept_21 (hF.trans u))) (fun v0 v1 M1 r1 q1 q2 q3 u => ih q2 q3 q1 (fun M1 r1 q1 q2 q3 u2 => K M1 r1 q1 q2 q3 ((qUl_hearsAccept_21 (hF.trans u)).trans u2))) 
        · skip
          replace hF := hF.trans (if_neg c3)
          replace H := z_nne (s_1598_40 S) H
          replace H := H.2
          try simp only [qa_76 R] at H
          rcases q_em H with ⟨c4, H⟩ | ⟨c4, H⟩
          · skip
            replace hF := hF.trans (if_pos c4)
            refine qX_lands S R H (fun M_13 r_M_13 H S_M_13 R_M_13 u => ?_)
            replace hF := hF.trans (q_ste u.symm)
            exact qX_hearsAccept_57 S_M_13 R_M_13 H (fun M1 r1 q1 q2 q3 u => K M1 r1 q1 q2 q3 (qUr_hearsAccept_21 (hF.trans u))) (fun v0 v1 M1 r1 q1 q2 q3 u => ih q2 q3 q1 (fun M1 r1 q1 q2 q3 u2 => K M1 r1 q1 q2 q3 ((qUl_hearsAccept_21 (hF.trans u)).trans u2))) 
          · skip
            replace hF := hF.trans (if_neg c4)
            exact qX_hearsAccept_57 S R H (fun M1 r1 q1 q2 q3 u => K M1 r1 q1 q2 q3 (qUr_hearsAccept_21 (hF.trans u))) (fun v0 v1 M1 r1 q1 q2 q3 u => ih q2 q3 q1 (fun M1 r1 q1 q2 q3 u2 => K M1 r1 q1 q2 q3 ((qUl_hearsAccept_21 (hF.trans u)).trans u2))) 
      · skip
        replace hF := hF.trans (if_neg c2)
        exact qX_hearsAccept_57 S R H (fun M1 r1 q1 q2 q3 u => K M1 r1 q1 q2 q3 (qUr_hearsAccept_21 (hF.trans u))) (fun v0 v1 M1 r1 q1 q2 q3 u => ih q2 q3 q1 (fun M1 r1 q1 q2 q3 u2 => K M1 r1 q1 q2 q3 ((qUl_hearsAccept_21 (hF.trans u)).trans u2))) 
set_option maxRecDepth 100000 in
set_option maxHeartbeats 4000000 in
theorem qX_hearsAccept {n : Nat} {X : Prop} {Q : z_Mem → Prop} {p1 : Int32} {M : z_Mem} {r : q_R} (S : y_S n M) (R : q_rep n M r) (H : P_X12_hearsAccept (n + 40) p1 M Q) (K : ∀ M1 r1, Q M1 → y_S n M1 → q_rep n M1 r1 → qF_hearsAccept p1 r = r1 → X) : X := by
  have hF := qE_hearsAccept p1 r
  unfold P_X12_hearsAccept at H
  obtain ⟨M_14, e_M_14, H⟩ := q_all H
  have S_M_14 : y_S n M_14 := by rw [e_M_14]; exact S_sfi S
  have R_M_14 := rep_sfi R e_M_14
  obtain ⟨r_M_14, h_M_14⟩ := q_gen R_M_14
  replace hF := hF.trans (q_ste h_M_14.2)
  replace R_M_14 := h_M_14.1
  try simp only [qf_1536 R_M_14, qf_1580 R_M_14] at H
  refine qX_measures S_M_14 R_M_14 H (fun M_17 r_M_17 H S_M_17 R_M_17 u => ?_)
  replace hF := hF.trans (q_ste u.symm)
  obtain ⟨m, H⟩ := H
  exact qX_hearsAccept_21 m S_M_17 R_M_17 H (fun M1 r1 q1 q2 q3 u => K M1 r1 q1 q2 q3 (hF.trans u))
set_option maxRecDepth 100000 in
set_option maxHeartbeats 4000000 in
theorem qX_arrivesAtClient_153 {n : Nat} {X : Prop} {Q : z_Mem → Prop} {x2 : Int32} {M : z_Mem} {r : q_R} (S : y_S n M) (R : q_rep n M r) (H : P_X12_arrivesAtClient_153 (n + 40) Q x2 M) (K : ∀ M1 r1, Q M1 → y_S n M1 → q_rep n M1 r1 → qF_arrivesAtClient_153 x2 r = r1 → X) : X := by
  have hF := qE_arrivesAtClient_153 x2 r
  unfold P_X12_arrivesAtClient_153 at H
  rcases q_em H with ⟨c1, H⟩ | ⟨c1, H⟩
  · skip
    replace hF := hF.trans (if_pos c1)
    try simp only [qf_1577 R] at H
    rcases q_em H with ⟨c2, H⟩ | ⟨c2, H⟩
    · skip
      replace hF := hF.trans (if_pos c2)
      exact K _ _ H S R hF
    · skip
      replace hF := hF.trans (if_neg c2)
      obtain ⟨M_4, e_M_4, H⟩ := q_all H
      have S_M_4 : y_S n M_4 := by rw [e_M_4]; exact S_sfi S
      have R_M_4 := rep_sfi R e_M_4
      obtain ⟨r_M_4, h_M_4⟩ := q_gen R_M_4
      replace hF := hF.trans (q_ste h_M_4.2)
      replace R_M_4 := h_M_4.1
      exact K _ _ H S_M_4 R_M_4 hF
  · skip
    replace hF := hF.trans (if_neg c1)
    exact K _ _ H S R hF
set_option maxRecDepth 100000 in
set_option maxHeartbeats 4000000 in
theorem qX_arrivesAtClient_116 {n : Nat} {X : Prop} {Q : z_Mem → Prop} {x1 : Int32} {x2 : Int32} {M : z_Mem} {r : q_R} (S : y_S n M) (R : q_rep n M r) (H : P_X12_arrivesAtClient_116 (n + 40) Q x1 x2 M) (K : ∀ M1 r1, Q M1 → y_S n M1 → q_rep n M1 r1 → qF_arrivesAtClient_116 x1 x2 r = r1 → X) : X := by
  have hF := qE_arrivesAtClient_116 x1 x2 r
  unfold P_X12_arrivesAtClient_116 at H
  rcases q_em H with ⟨c1, H⟩ | ⟨c1, H⟩
  · skip
    replace hF := hF.trans (if_pos c1)
    try simp only [qf_1577 R] at H
    rcases q_em H with ⟨c2, H⟩ | ⟨c2, H⟩
    · skip
      replace hF := hF.trans (if_pos c2)
      exact qX_arrivesAtClient_153 S R H (fun M1 r1 q1 q2 q3 u => K M1 r1 q1 q2 q3 (hF.trans u))
    · skip
      replace hF := hF.trans (if_neg c2)
      try simp only [qf_1577 R] at H
      rcases q_em H with ⟨c3, H⟩ | ⟨c3, H⟩
      · skip
        replace hF := hF.trans (if_pos c3)
        exact qX_arrivesAtClient_153 S R H (fun M1 r1 q1 q2 q3 u => K M1 r1 q1 q2 q3 (hF.trans u))
      · skip
        replace hF := hF.trans (if_neg c3)
        replace H := z_nne (s_1557_40 S) H
        replace H := H.2
        replace H := z_nne (s_1615_40 S) H
        replace H := H.2
        try simp only [qa_59 R] at H
        obtain ⟨M_16, e_M_16, H⟩ := q_all H
        have S_M_16 : y_S n M_16 := by rw [e_M_16]; exact S_sai S
        have R_M_16 := rep_sai R (by decide) (by decide) e_M_16
        obtain ⟨r_M_16, h_M_16⟩ := q_gen R_M_16
        replace hF := hF.trans (q_ste h_M_16.2)
        replace R_M_16 := h_M_16.1
        exact K _ _ H S_M_16 R_M_16 hF
  · skip
    replace hF := hF.trans (if_neg c1)
    exact qX_arrivesAtClient_153 S R H (fun M1 r1 q1 q2 q3 u => K M1 r1 q1 q2 q3 (hF.trans u))
set_option maxRecDepth 100000 in
set_option maxHeartbeats 4000000 in
theorem qX_arrivesAtClient_81 {n : Nat} {X : Prop} {Q : z_Mem → Prop} {x1 : Int32} {x2 : Int32} {M : z_Mem} {r : q_R} (S : y_S n M) (R : q_rep n M r) (H : P_X12_arrivesAtClient_81 (n + 40) Q x1 x2 M) (K : ∀ M1 r1, Q M1 → y_S n M1 → q_rep n M1 r1 → qF_arrivesAtClient_81 x1 x2 r = r1 → X) : X := by
  have hF := qE_arrivesAtClient_81 x1 x2 r
  unfold P_X12_arrivesAtClient_81 at H
  rcases q_em H with ⟨c1, H⟩ | ⟨c1, H⟩
  · skip
    replace hF := hF.trans (if_pos c1)
    try simp only [qf_1577 R] at H
    rcases q_em H with ⟨c2, H⟩ | ⟨c2, H⟩
    · skip
      replace hF := hF.trans (if_pos c2)
      replace H := z_nne (s_1556_40 S) H
      replace H := H.2
      try simp only [qa_58 R] at H
      refine qX_hearsAck S R H (fun M_23 r_M_23 H S_M_23 R_M_23 u => ?_)
      replace hF := hF.trans (q_ste u.symm)
      exact K _ _ H S_M_23 R_M_23 hF
    · skip
      replace hF := hF.trans (if_neg c2)
      try simp only [qf_1577 R] at H
      rcases q_em H with ⟨c3, H⟩ | ⟨c3, H⟩
      · skip
        replace hF := hF.trans (if_pos c3)
        replace H := z_nne (s_1556_40 S) H
        replace H := H.2
        try simp only [qa_58 R] at H
        refine qX_hearsAck S R H (fun M_29 r_M_29 H S_M_29 R_M_29 u => ?_)
        replace hF := hF.trans (q_ste u.symm)
        exact K _ _ H S_M_29 R_M_29 hF
      · skip
        replace hF := hF.trans (if_neg c3)
        exact qX_arrivesAtClient_116 S R H (fun M1 r1 q1 q2 q3 u => K M1 r1 q1 q2 q3 (hF.trans u))
  · skip
    replace hF := hF.trans (if_neg c1)
    exact qX_arrivesAtClient_116 S R H (fun M1 r1 q1 q2 q3 u => K M1 r1 q1 q2 q3 (hF.trans u))
set_option maxRecDepth 100000 in
set_option maxHeartbeats 4000000 in
theorem qX_arrivesAtClient_45 {n : Nat} {X : Prop} {Q : z_Mem → Prop} {x1 : Int32} {x2 : Int32} {M : z_Mem} {r : q_R} (S : y_S n M) (R : q_rep n M r) (H : P_X12_arrivesAtClient_45 (n + 40) Q x1 x2 M) (K : ∀ M1 r1, Q M1 → y_S n M1 → q_rep n M1 r1 → qF_arrivesAtClient_45 x1 x2 r = r1 → X) : X := by
  have hF := qE_arrivesAtClient_45 x1 x2 r
  unfold P_X12_arrivesAtClient_45 at H
  rcases q_em H with ⟨c1, H⟩ | ⟨c1, H⟩
  · skip
    replace hF := hF.trans (if_pos c1)
    try simp only [qf_1577 R] at H
    rcases q_em H with ⟨c2, H⟩ | ⟨c2, H⟩
    · skip
      replace hF := hF.trans (if_pos c2)
      replace H := z_nne (s_1556_40 S) H
      replace H := H.2
      try simp only [qa_58 R] at H
      rcases q_em H with ⟨c3, H⟩ | ⟨c3, H⟩
      · skip
        replace hF := hF.trans (if_pos c3)
        refine qX_hearsAccept S R H (fun M_38 r_M_38 H S_M_38 R_M_38 u => ?_)
        replace hF := hF.trans (q_ste u.symm)
        exact K _ _ H S_M_38 R_M_38 hF
      · skip
        replace hF := hF.trans (if_neg c3)
        refine qX_hearsAccept S R H (fun M_37 r_M_37 H S_M_37 R_M_37 u => ?_)
        replace hF := hF.trans (q_ste u.symm)
        exact K _ _ H S_M_37 R_M_37 hF
    · skip
      replace hF := hF.trans (if_neg c2)
      exact qX_arrivesAtClient_81 S R H (fun M1 r1 q1 q2 q3 u => K M1 r1 q1 q2 q3 (hF.trans u))
  · skip
    replace hF := hF.trans (if_neg c1)
    exact qX_arrivesAtClient_81 S R H (fun M1 r1 q1 q2 q3 u => K M1 r1 q1 q2 q3 (hF.trans u))
set_option maxRecDepth 100000 in
set_option maxHeartbeats 4000000 in
theorem qX_arrivesAtClient {n : Nat} {X : Prop} {Q : z_Mem → Prop} {p1 : Int32} {M : z_Mem} {r : q_R} (S : y_S n M) (R : q_rep n M r) (H : P_X12_arrivesAtClient (n + 40) p1 M Q) (K : ∀ M1 r1, Q M1 → y_S n M1 → q_rep n M1 r1 → qF_arrivesAtClient p1 r = r1 → X) : X := by
  have hF := qE_arrivesAtClient p1 r
  unfold P_X12_arrivesAtClient at H
  replace H := z_nne (s_1555_40 S) H
  replace H := H.2
  try simp only [qa_57 R] at H
  obtain ⟨x_42, e_x_42, H⟩ := q_all H
  replace hF := hF.trans (q_ste e_x_42)
  rcases q_em H with ⟨c1, H⟩ | ⟨c1, H⟩
  · skip
    replace hF := hF.trans (if_pos c1)
    try simp only [qf_1577 R] at H
    rcases q_em H with ⟨c2, H⟩ | ⟨c2, H⟩
    · skip
      replace hF := hF.trans (if_pos c2)
      try simp only [qf_1579 R] at H
      rcases q_em H with ⟨c3, H⟩ | ⟨c3, H⟩
      · skip
        replace hF := hF.trans (if_pos c3)
        obtain ⟨M_48, e_M_48, H⟩ := q_all H
        have S_M_48 : y_S n M_48 := by rw [e_M_48]; exact S_sfi S
        have R_M_48 := rep_sfi R e_M_48
        obtain ⟨r_M_48, h_M_48⟩ := q_gen R_M_48
        replace hF := hF.trans (q_ste h_M_48.2)
        replace R_M_48 := h_M_48.1
        obtain ⟨M_49, e_M_49, H⟩ := q_all H
        have S_M_49 : y_S n M_49 := by rw [e_M_49]; exact S_sfi S_M_48
        have R_M_49 := rep_sfi R_M_48 e_M_49
        obtain ⟨r_M_49, h_M_49⟩ := q_gen R_M_49
        replace hF := hF.trans (q_ste h_M_49.2)
        replace R_M_49 := h_M_49.1
        refine qX_saysHello S_M_49 R_M_49 H (fun M_50 r_M_50 H S_M_50 R_M_50 u => ?_)
        replace hF := hF.trans (q_ste u.symm)
        exact K _ _ H S_M_50 R_M_50 hF
      · skip
        replace hF := hF.trans (if_neg c3)
        exact qX_arrivesAtClient_45 S R H (fun M1 r1 q1 q2 q3 u => K M1 r1 q1 q2 q3 (hF.trans u))
    · skip
      replace hF := hF.trans (if_neg c2)
      exact qX_arrivesAtClient_45 S R H (fun M1 r1 q1 q2 q3 u => K M1 r1 q1 q2 q3 (hF.trans u))
  · skip
    replace hF := hF.trans (if_neg c1)
    exact qX_arrivesAtClient_45 S R H (fun M1 r1 q1 q2 q3 u => K M1 r1 q1 q2 q3 (hF.trans u))
set_option maxRecDepth 100000 in
set_option maxHeartbeats 4000000 in
theorem qX_sends_139 {n : Nat} {X : Prop} {Q : z_Mem → Prop} : ∀ (m : Nat) {x1 : Int32} {x2 : Int32} {x3 : Int32} {x4 : Int32} {x6 : Int32} {x7 : Int32} {M : z_Mem} {r : q_R} (S : y_S n M) (R : q_rep n M r) (H : P_X12_sends_139 (n + 40) Q m x1 x2 x3 x4 x6 x7 M) (K : ∀ M1 r1, Q M1 → y_S n M1 → q_rep n M1 r1 → qF_sends_139 x1 x2 x3 x4 x6 x7 r = r1 → X), X := by
  intro m
  induction m with
  | zero => intros; rename_i H _; exact False.elim H
  | succ m ih =>
    intro x1 x2 x3 x4 x6 x7 M r S R H K
    have hF := qE_sends_139 x1 x2 x3 x4 x6 x7 r
    unfold P_X12_sends_139 at H
    rcases q_em H with ⟨c1, H⟩ | ⟨c1, H⟩
    · skip
      replace hF := hF.trans (if_pos c1)
      try simp only [qf_1606 R] at H
      obtain ⟨M_3, e_M_3, H⟩ := q_all H
      have S_M_3 : y_S n M_3 := by rw [e_M_3]; exact S_sfi S
      have R_M_3 := rep_sfi R e_M_3
      obtain ⟨r_M_3, h_M_3⟩ := q_gen R_M_3
      replace hF := hF.trans (q_ste h_M_3.2)
      replace R_M_3 := h_M_3.1
      refine qX_puts S_M_3 R_M_3 H (fun M_4 r_M_4 H S_M_4 R_M_4 u => ?_)
      replace hF := hF.trans (q_ste u.symm)
      exact K _ _ H S_M_4 R_M_4 (qUr_sends_139 hF)
    · skip
      replace hF := hF.trans (if_neg c1)
      replace H := z_nne (s_1592_40 S) H
      replace H := H.2
      replace H := H.2
      try simp only [qa_70 R] at H
      obtain ⟨M_9, e_M_9, H⟩ := q_all H
      have S_M_9 : y_S n M_9 := by rw [e_M_9]; exact S_sai S
      have R_M_9 := rep_sai R (by decide) (by decide) e_M_9
      obtain ⟨r_M_9, h_M_9⟩ := q_gen R_M_9
      replace hF := hF.trans (q_ste h_M_9.2)
      replace R_M_9 := h_M_9.1
      obtain ⟨x_10, e_x_10, H⟩ := q_all H
      replace hF := hF.trans (q_ste e_x_10)
      replace hF := qUl_sends_139 hF
      exact ih S_M_9 R_M_9 H (fun M1 r1 q1 q2 q3 u => K M1 r1 q1 q2 q3 (hF.trans u))
set_option maxRecDepth 100000 in
set_option maxHeartbeats 4000000 in
theorem qX_sends_89 {n : Nat} {X : Prop} {Q : z_Mem → Prop} {x1 : Int32} {x2 : Int32} {x3 : Int32} {x4 : Int32} {x6 : Int32} {t1 : Int32} {t2 : Int32} {t0 : Nat} {o_t0 : Option Nat} {M : z_Mem} {r : q_R} (h0_t0 : 41 ≤ t0) (h1_t0 : t0 < 107) (ho_t0 : o_t0 = some (n + t0)) (S : y_S n M) (R : q_rep n M r) (H : P_X12_sends_89 (n + 40) Q x1 x2 x3 x4 x6 o_t0 t1 t2 M) (K : ∀ M1 r1, Q M1 → y_S n M1 → q_rep n M1 r1 → qF_sends_89 x1 x2 x3 x4 x6 t0 t1 t2 r = r1 → X) : X := by
  subst ho_t0
  have hF := qE_sends_89 x1 x2 x3 x4 x6 t0 t1 t2 r
  unfold P_X12_sends_89 at H
  replace H := z_nne rfl H
  replace H := H.2
  obtain ⟨M_13, e_M_13, H⟩ := q_all H
  have S_M_13 : y_S n M_13 := by rw [e_M_13]; exact S_sai S
  have R_M_13 := rep_sai R h0_t0 h1_t0 e_M_13
  obtain ⟨r_M_13, h_M_13⟩ := q_gen R_M_13
  replace hF := hF.trans (q_ste h_M_13.2)
  replace R_M_13 := h_M_13.1
  replace H := z_nne (s_1616_40 S_M_13) H
  replace H := H.2
  replace H := z_nne (s_1604_40 S_M_13) H
  replace H := H.2
  try simp only [qa_93 R_M_13] at H
  obtain ⟨M_20, e_M_20, H⟩ := q_all H
  have S_M_20 : y_S n M_20 := by rw [e_M_20]; exact S_sai S_M_13
  have R_M_20 := rep_sai R_M_13 (by decide) (by decide) e_M_20
  obtain ⟨r_M_20, h_M_20⟩ := q_gen R_M_20
  replace hF := hF.trans (q_ste h_M_20.2)
  replace R_M_20 := h_M_20.1
  replace H := z_nne (s_1616_40 S_M_20) H
  replace H := H.2
  replace H := H.2
  try simp only [qa_93 R_M_20] at H
  obtain ⟨M_25, e_M_25, H⟩ := q_all H
  have S_M_25 : y_S n M_25 := by rw [e_M_25]; exact S_sai S_M_20
  have R_M_25 := rep_sai R_M_20 (by decide) (by decide) e_M_25
  obtain ⟨r_M_25, h_M_25⟩ := q_gen R_M_25
  replace hF := hF.trans (q_ste h_M_25.2)
  replace R_M_25 := h_M_25.1
  replace H := z_nne (s_1620_40 S_M_25) H
  replace H := H.2
  replace H := z_nne (s_1605_40 S_M_25) H
  replace H := H.2
  try simp only [qa_97 R_M_25] at H
  obtain ⟨M_32, e_M_32, H⟩ := q_all H
  have S_M_32 : y_S n M_32 := by rw [e_M_32]; exact S_sai S_M_25
  have R_M_32 := rep_sai R_M_25 (by decide) (by decide) e_M_32
  obtain ⟨r_M_32, h_M_32⟩ := q_gen R_M_32
  replace hF := hF.trans (q_ste h_M_32.2)
  replace R_M_32 := h_M_32.1
  replace H := z_nne (s_1618_40 S_M_32) H
  replace H := H.2
  try simp only [qf_1536 R_M_32] at H
  obtain ⟨M_37, e_M_37, H⟩ := q_all H
  have S_M_37 : y_S n M_37 := by rw [e_M_37]; exact S_sai S_M_32
  have R_M_37 := rep_sai R_M_32 (by decide) (by decide) e_M_37
  obtain ⟨r_M_37, h_M_37⟩ := q_gen R_M_37
  replace hF := hF.trans (q_ste h_M_37.2)
  replace R_M_37 := h_M_37.1
  obtain ⟨m, H⟩ := H
  exact qX_sends_139 m S_M_37 R_M_37 H (fun M1 r1 q1 q2 q3 u => K M1 r1 q1 q2 q3 (hF.trans u))
set_option maxRecDepth 100000 in
set_option maxHeartbeats 4000000 in
theorem qX_sends {n : Nat} {X : Prop} {Q : z_Mem → Prop} {p1 : Int32} {p2 : Int32} {p3 : Int32} {p4 : Int32} {p5 : Int32} {M : z_Mem} {r : q_R} (S : y_S n M) (R : q_rep n M r) (H : P_X12_sends (n + 40) p1 p2 p3 p4 p5 M Q) (K : ∀ M1 r1, Q M1 → y_S n M1 → q_rep n M1 r1 → qF_sends p1 p2 p3 p4 p5 r = r1 → X) : X := by
  have hF := qE_sends p1 p2 p3 p4 p5 r
  unfold P_X12_sends at H
  try simp only [qf_1606 R] at H
  obtain ⟨x_40, e_x_40, H⟩ := q_all H
  replace hF := hF.trans (q_ste e_x_40)
  replace H := z_nne (s_1593_40 S) H
  replace H := H.2
  obtain ⟨M_44, e_M_44, H⟩ := q_all H
  have S_M_44 : y_S n M_44 := by rw [e_M_44]; exact S_sai S
  have R_M_44 := rep_sai R (by decide) (by decide) e_M_44
  obtain ⟨r_M_44, h_M_44⟩ := q_gen R_M_44
  replace hF := hF.trans (q_ste h_M_44.2)
  replace R_M_44 := h_M_44.1
  replace H := z_nne (s_1594_40 S_M_44) H
  replace H := H.2
  try simp only [qf_1536 R_M_44] at H
  obtain ⟨M_49, e_M_49, H⟩ := q_all H
  have S_M_49 : y_S n M_49 := by rw [e_M_49]; exact S_sai S_M_44
  have R_M_49 := rep_sai R_M_44 (by decide) (by decide) e_M_49
  obtain ⟨r_M_49, h_M_49⟩ := q_gen R_M_49
  replace hF := hF.trans (q_ste h_M_49.2)
  replace R_M_49 := h_M_49.1
  replace H := z_nne (s_1595_40 S_M_49) H
  replace H := H.2
  obtain ⟨M_53, e_M_53, H⟩ := q_all H
  have S_M_53 : y_S n M_53 := by rw [e_M_53]; exact S_sai S_M_49
  have R_M_53 := rep_sai R_M_49 (by decide) (by decide) e_M_53
  obtain ⟨r_M_53, h_M_53⟩ := q_gen R_M_53
  replace hF := hF.trans (q_ste h_M_53.2)
  replace R_M_53 := h_M_53.1
  replace H := z_nne (s_1596_40 S_M_53) H
  replace H := H.2
  obtain ⟨M_57, e_M_57, H⟩ := q_all H
  have S_M_57 : y_S n M_57 := by rw [e_M_57]; exact S_sai S_M_53
  have R_M_57 := rep_sai R_M_53 (by decide) (by decide) e_M_57
  obtain ⟨r_M_57, h_M_57⟩ := q_gen R_M_57
  replace hF := hF.trans (q_ste h_M_57.2)
  replace R_M_57 := h_M_57.1
  replace H := z_nne (s_1597_40 S_M_57) H
  replace H := H.2
  obtain ⟨M_61, e_M_61, H⟩ := q_all H
  have S_M_61 : y_S n M_61 := by rw [e_M_61]; exact S_sai S_M_57
  have R_M_61 := rep_sai R_M_57 (by decide) (by decide) e_M_61
  obtain ⟨r_M_61, h_M_61⟩ := q_gen R_M_61
  replace hF := hF.trans (q_ste h_M_61.2)
  replace R_M_61 := h_M_61.1
  replace H := z_nne (s_1600_40 S_M_61) H
  replace H := H.2
  try simp only [qf_1584 R_M_61] at H
  obtain ⟨M_66, e_M_66, H⟩ := q_all H
  have S_M_66 : y_S n M_66 := by rw [e_M_66]; exact S_sai S_M_61
  have R_M_66 := rep_sai R_M_61 (by decide) (by decide) e_M_66
  obtain ⟨r_M_66, h_M_66⟩ := q_gen R_M_66
  replace hF := hF.trans (q_ste h_M_66.2)
  replace R_M_66 := h_M_66.1
  replace H := z_nne (s_1601_40 S_M_66) H
  replace H := H.2
  obtain ⟨M_70, e_M_70, H⟩ := q_all H
  have S_M_70 : y_S n M_70 := by rw [e_M_70]; exact S_sai S_M_66
  have R_M_70 := rep_sai R_M_66 (by decide) (by decide) e_M_70
  obtain ⟨r_M_70, h_M_70⟩ := q_gen R_M_70
  replace hF := hF.trans (q_ste h_M_70.2)
  replace R_M_70 := h_M_70.1
  try simp only [qf_1577 R_M_70] at H
  rcases q_em H with ⟨c1, H⟩ | ⟨c1, H⟩
  · skip
    replace hF := hF.trans (if_pos c1)
    exact qX_sends_89 (by decide) (by decide) (s_1602_40 S_M_70) S_M_70 R_M_70 H (fun M1 r1 q1 q2 q3 u => K M1 r1 q1 q2 q3 (hF.trans u))
  · skip
    replace hF := hF.trans (if_neg c1)
    exact qX_sends_89 (by decide) (by decide) (s_1602_40 S_M_70) S_M_70 R_M_70 H (fun M1 r1 q1 q2 q3 u => K M1 r1 q1 q2 q3 (hF.trans u))
set_option maxRecDepth 100000 in
set_option maxHeartbeats 4000000 in
theorem qX_isLost {n : Nat} {X : Prop} {Q : Int32 → z_Mem → Prop} {p1 : Int32} {p2 : Int32} {M : z_Mem} {r : q_R} (S : y_S n M) (R : q_rep n M r) (H : P_X12_isLost (n + 40) p1 p2 M Q) (K : ∀ x M1 r1, Q x M1 → y_S n M1 → q_rep n M1 r1 → qF_isLost p1 p2 r = (x, r1) → X) : X := by
  have hF := qE_isLost p1 p2 r
  unfold P_X12_isLost at H
  replace H := z_nne (s_1587_40 S) H
  replace H := H.2
  try simp only [qa_67 R] at H
  rcases q_em H with ⟨c1, H⟩ | ⟨c1, H⟩
  · skip
    replace hF := hF.trans (if_pos c1)
    exact K _ _ _ H S R hF
  · skip
    replace hF := hF.trans (if_neg c1)
    replace H := z_nne (s_1591_40 S) H
    replace H := H.2
    try simp only [qa_69 R] at H
    rcases q_em H with ⟨c2, H⟩ | ⟨c2, H⟩
    · skip
      replace hF := hF.trans (if_pos c2)
      replace H := z_nne (s_1592_40 S) H
      replace H := H.2
      try simp only [qa_70 R] at H
      rcases q_em H with ⟨c3, H⟩ | ⟨c3, H⟩
      · skip
        replace hF := hF.trans (if_pos c3)
        exact K _ _ _ H S R hF
      · skip
        replace hF := hF.trans (if_neg c3)
        exact K _ _ _ H S R hF
    · skip
      replace hF := hF.trans (if_neg c2)
      exact K _ _ _ H S R hF
set_option maxRecDepth 100000 in
set_option maxHeartbeats 4000000 in
theorem qX_firstLost_2 {n : Nat} {X : Prop} {Q : Int32 → z_Mem → Prop} : ∀ (m : Nat) {x1 : Int32} {x2 : Int32} {M : z_Mem} {r : q_R} (S : y_S n M) (R : q_rep n M r) (H : P_X12_firstLost_2 (n + 40) Q m x1 x2 M) (K : ∀ x M1 r1, Q x M1 → y_S n M1 → q_rep n M1 r1 → qF_firstLost_2 x1 x2 r = (x, r1) → X), X := by
  intro m
  induction m with
  | zero => intros; rename_i H _; exact False.elim H
  | succ m ih =>
    intro x1 x2 M r S R H K
    have hF := qE_firstLost_2 x1 x2 r
    unfold P_X12_firstLost_2 at H
    replace H := z_nne (s_1587_40 S) H
    replace H := H.2
    try simp only [qa_67 R] at H
    rcases q_em H with ⟨c1, H⟩ | ⟨c1, H⟩
    · skip
      replace hF := hF.trans (if_pos c1)
      exact K _ _ _ H S R (qUr_firstLost_2 hF)
    · skip
      replace hF := hF.trans (if_neg c1)
      refine qX_isLost S R H (fun x_5 M_5 r_M_5 H S_M_5 R_M_5 u => ?_)
      replace hF := hF.trans (q_ste2 u)
      rcases q_em H with ⟨c2, H⟩ | ⟨c2, H⟩
      · skip
        replace hF := hF.trans (if_pos c2)
        obtain ⟨x_7, e_x_7, H⟩ := q_all H
        replace hF := hF.trans (q_ste e_x_7)
        replace hF := qUl_firstLost_2 hF
        exact ih S_M_5 R_M_5 H (fun x M1 r1 q1 q2 q3 u => K x M1 r1 q1 q2 q3 (hF.trans u))
      · skip
        replace hF := hF.trans (if_neg c2)
        exact K _ _ _ H S_M_5 R_M_5 (qUr_firstLost_2 hF)
set_option maxRecDepth 100000 in
set_option maxHeartbeats 4000000 in
theorem qX_firstLost {n : Nat} {X : Prop} {Q : Int32 → z_Mem → Prop} {p1 : Int32} {M : z_Mem} {r : q_R} (S : y_S n M) (R : q_rep n M r) (H : P_X12_firstLost (n + 40) p1 M Q) (K : ∀ x M1 r1, Q x M1 → y_S n M1 → q_rep n M1 r1 → qF_firstLost p1 r = (x, r1) → X) : X := by
  have hF := qE_firstLost p1 r
  unfold P_X12_firstLost at H
  obtain ⟨m, H⟩ := H
  exact qX_firstLost_2 m S R H (fun x M1 r1 q1 q2 q3 u => K x M1 r1 q1 q2 q3 (hF.trans u))
set_option maxRecDepth 100000 in
set_option maxHeartbeats 4000000 in
theorem qX_sentInAll {n : Nat} {X : Prop} {Q : Int32 → z_Mem → Prop} {M : z_Mem} {r : q_R} (S : y_S n M) (R : q_rep n M r) (H : P_X12_sentInAll (n + 40) M Q) (K : ∀ x M1 r1, Q x M1 → y_S n M1 → q_rep n M1 r1 → qF_sentInAll r = (x, r1) → X) : X := by
  have hF := qE_sentInAll r
  unfold P_X12_sentInAll at H
  replace H := z_nne (s_1587_40 S) H
  replace H := H.2
  replace H := z_nne (s_1587_40 S) H
  replace H := H.2
  replace H := z_nne (s_1587_40 S) H
  replace H := H.2
  replace H := z_nne (s_1587_40 S) H
  replace H := H.2
  try simp only [qa_67 R] at H
  exact K _ _ _ H S R hF
set_option maxRecDepth 100000 in
set_option maxHeartbeats 4000000 in
theorem qX_newOf_49 {n : Nat} {X : Prop} {Q : Int32 → z_Mem → Prop} {x4 : Int32} {t0 : Int32} {M : z_Mem} {r : q_R} (S : y_S n M) (R : q_rep n M r) (H : P_X12_newOf_49 (n + 40) Q x4 t0 M) (K : ∀ x M1 r1, Q x M1 → y_S n M1 → q_rep n M1 r1 → qF_newOf_49 x4 t0 r = (x, r1) → X) : X := by
  have hF := qE_newOf_49 x4 t0 r
  unfold P_X12_newOf_49 at H
  rcases q_em H with ⟨c1, H⟩ | ⟨c1, H⟩
  · skip
    replace hF := hF.trans (if_pos c1)
    rcases q_em H with ⟨c2, H⟩ | ⟨c2, H⟩
    · skip
      replace hF := hF.trans (if_pos c2)
      exact K _ _ _ H S R hF
    · skip
      replace hF := hF.trans (if_neg c2)
      exact K _ _ _ H S R hF
  · skip
    replace hF := hF.trans (if_neg c1)
    rcases q_em H with ⟨c3, H⟩ | ⟨c3, H⟩
    · skip
      replace hF := hF.trans (if_pos c3)
      exact K _ _ _ H S R hF
    · skip
      replace hF := hF.trans (if_neg c3)
      exact K _ _ _ H S R hF
set_option maxRecDepth 100000 in
set_option maxHeartbeats 4000000 in
theorem qX_newOf {n : Nat} {X : Prop} {Q : Int32 → z_Mem → Prop} {p1 : Int32} {M : z_Mem} {r : q_R} (S : y_S n M) (R : q_rep n M r) (H : P_X12_newOf (n + 40) p1 M Q) (K : ∀ x M1 r1, Q x M1 → y_S n M1 → q_rep n M1 r1 → qF_newOf p1 r = (x, r1) → X) : X := by
  have hF := qE_newOf p1 r
  unfold P_X12_newOf at H
  replace H := z_nne (s_1586_40 S) H
  replace H := H.2
  replace H := z_nne (s_1587_40 S) H
  replace H := H.2
  try simp only [qa_66 R, qa_67 R] at H
  obtain ⟨x_10, e_x_10, H⟩ := q_all H
  replace hF := hF.trans (q_ste e_x_10)
  replace H := z_nne (s_1588_40 S) H
  replace H := H.2
  replace H := z_nne (s_1587_40 S) H
  replace H := H.2
  try simp only [qa_67 R, qa_68 R] at H
  obtain ⟨x_17, e_x_17, H⟩ := q_all H
  replace hF := hF.trans (q_ste e_x_17)
  refine qX_sentInAll S R H (fun x_19 M_19 r_M_19 H S_M_19 R_M_19 u => ?_)
  replace hF := hF.trans (q_ste2 u)
  try simp only [qf_1589 R] at H
  obtain ⟨x_20, e_x_20, H⟩ := q_all H
  replace hF := hF.trans (q_ste e_x_20)
  rcases q_em H with ⟨c1, H⟩ | ⟨c1, H⟩
  · skip
    replace hF := hF.trans (if_pos c1)
    exact qX_newOf_49 S_M_19 R_M_19 H (fun x M1 r1 q1 q2 q3 u => K x M1 r1 q1 q2 q3 (hF.trans u))
  · skip
    replace hF := hF.trans (if_neg c1)
    exact qX_newOf_49 S_M_19 R_M_19 H (fun x M1 r1 q1 q2 q3 u => K x M1 r1 q1 q2 q3 (hF.trans u))
set_option maxRecDepth 100000 in
set_option maxHeartbeats 4000000 in
theorem qX_canTake_52 {n : Nat} {X : Prop} {Q : Int32 → z_Mem → Prop} {x1 : Int32} {x3 : Int32} {M : z_Mem} {r : q_R} (S : y_S n M) (R : q_rep n M r) (H : P_X12_canTake_52 (n + 40) Q x1 x3 M) (K : ∀ x M1 r1, Q x M1 → y_S n M1 → q_rep n M1 r1 → qF_canTake_52 x1 x3 r = (x, r1) → X) : X := by
  have hF := qE_canTake_52 x1 x3 r
  unfold P_X12_canTake_52 at H
  refine qX_inFlight S R H (fun x_1 M_1 r_M_1 H S_M_1 R_M_1 u => ?_)
  replace hF := hF.trans (q_ste2 u)
  replace H := z_nne (s_1607_40 S_M_1) H
  replace H := H.2
  try simp only [qa_84 R_M_1] at H
  rcases q_em H with ⟨c1, H⟩ | ⟨c1, H⟩
  · skip
    replace hF := hF.trans (if_pos c1)
    exact K _ _ _ H S_M_1 R_M_1 hF
  · skip
    replace hF := hF.trans (if_neg c1)
    replace H := z_nne (s_1628_40 S_M_1) H
    replace H := H.2
    try simp only [qa_105 R_M_1] at H
    rcases q_em H with ⟨c2, H⟩ | ⟨c2, H⟩
    · skip
      replace hF := hF.trans (if_pos c2)
      exact K _ _ _ H S_M_1 R_M_1 hF
    · skip
      replace hF := hF.trans (if_neg c2)
      exact K _ _ _ H S_M_1 R_M_1 hF
set_option maxRecDepth 100000 in
set_option maxHeartbeats 4000000 in
theorem qX_canTake {n : Nat} {X : Prop} {Q : Int32 → z_Mem → Prop} {p1 : Int32} {M : z_Mem} {r : q_R} (S : y_S n M) (R : q_rep n M r) (H : P_X12_canTake (n + 40) p1 M Q) (K : ∀ x M1 r1, Q x M1 → y_S n M1 → q_rep n M1 r1 → qF_canTake p1 r = (x, r1) → X) : X := by
  have hF := qE_canTake p1 r
  unfold P_X12_canTake at H
  replace H := z_nne (s_1610_40 S) H
  replace H := H.2
  try simp only [qa_87 R] at H
  refine qX_max S R H (fun x_13 M_13 r_M_13 H S_M_13 R_M_13 u => ?_)
  replace hF := hF.trans (q_ste2 u)
  replace H := z_nne (s_1607_40 S_M_13) H
  replace H := H.2
  replace H := H.2
  try simp only [qa_84 R_M_13] at H
  refine qX_max S_M_13 R_M_13 H (fun x_18 M_18 r_M_18 H S_M_18 R_M_18 u => ?_)
  replace hF := hF.trans (q_ste2 u)
  try simp only [qf_1583 R_M_18] at H
  rcases q_em H with ⟨c1, H⟩ | ⟨c1, H⟩
  · skip
    replace hF := hF.trans (if_pos c1)
    exact qX_canTake_52 S_M_18 R_M_18 H (fun x M1 r1 q1 q2 q3 u => K x M1 r1 q1 q2 q3 (hF.trans u))
  · skip
    replace hF := hF.trans (if_neg c1)
    try simp only [qf_1583 R_M_18] at H
    rcases q_em H with ⟨c2, H⟩ | ⟨c2, H⟩
    · skip
      replace hF := hF.trans (if_pos c2)
      exact qX_canTake_52 S_M_18 R_M_18 H (fun x M1 r1 q1 q2 q3 u => K x M1 r1 q1 q2 q3 (hF.trans u))
    · skip
      replace hF := hF.trans (if_neg c2)
      exact K _ _ _ H S_M_18 R_M_18 hF
set_option maxRecDepth 100000 in
set_option maxHeartbeats 4000000 in
theorem qX_nextPath {n : Nat} {X : Prop} {Q : Int32 → z_Mem → Prop} {M : z_Mem} {r : q_R} (S : y_S n M) (R : q_rep n M r) (H : P_X12_nextPath (n + 40) M Q) (K : ∀ x M1 r1, Q x M1 → y_S n M1 → q_rep n M1 r1 → qF_nextPath r = (x, r1) → X) : X := by
  have hF := qE_nextPath r
  unfold P_X12_nextPath at H
  refine qX_canTake S R H (fun x_1 M_1 r_M_1 H S_M_1 R_M_1 u => ?_)
  replace hF := hF.trans (q_ste2 u)
  refine qX_canTake S_M_1 R_M_1 H (fun x_2 M_2 r_M_2 H S_M_2 R_M_2 u => ?_)
  replace hF := hF.trans (q_ste2 u)
  rcases q_em H with ⟨c1, H⟩ | ⟨c1, H⟩
  · skip
    replace hF := hF.trans (if_pos c1)
    rcases q_em H with ⟨c2, H⟩ | ⟨c2, H⟩
    · skip
      replace hF := hF.trans (if_pos c2)
      rcases q_em H with ⟨c3, H⟩ | ⟨c3, H⟩
      · skip
        replace hF := hF.trans (if_pos c3)
        exact K _ _ _ H S_M_2 R_M_2 hF
      · skip
        replace hF := hF.trans (if_neg c3)
        exact K _ _ _ H S_M_2 R_M_2 hF
    · skip
      replace hF := hF.trans (if_neg c2)
      exact K _ _ _ H S_M_2 R_M_2 hF
  · skip
    replace hF := hF.trans (if_neg c1)
    rcases q_em H with ⟨c4, H⟩ | ⟨c4, H⟩
    · skip
      replace hF := hF.trans (if_pos c4)
      rcases q_em H with ⟨c5, H⟩ | ⟨c5, H⟩
      · skip
        replace hF := hF.trans (if_pos c5)
        rcases q_em H with ⟨c6, H⟩ | ⟨c6, H⟩
        · skip
          replace hF := hF.trans (if_pos c6)
          exact K _ _ _ H S_M_2 R_M_2 hF
        · skip
          replace hF := hF.trans (if_neg c6)
          exact K _ _ _ H S_M_2 R_M_2 hF
      · skip
        replace hF := hF.trans (if_neg c5)
        exact K _ _ _ H S_M_2 R_M_2 hF
    · skip
      replace hF := hF.trans (if_neg c4)
      refine qX_inFlight S_M_2 R_M_2 H (fun x_9 M_9 r_M_9 H S_M_9 R_M_9 u => ?_)
      replace hF := hF.trans (q_ste2 u)
      refine qX_inFlight S_M_9 R_M_9 H (fun x_10 M_10 r_M_10 H S_M_10 R_M_10 u => ?_)
      replace hF := hF.trans (q_ste2 u)
      rcases q_em H with ⟨c7, H⟩ | ⟨c7, H⟩
      · skip
        replace hF := hF.trans (if_pos c7)
        exact K _ _ _ H S_M_10 R_M_10 hF
      · skip
        replace hF := hF.trans (if_neg c7)
        exact K _ _ _ H S_M_10 R_M_10 hF
set_option maxRecDepth 100000 in
set_option maxHeartbeats 4000000 in
theorem qX_sendsNext_21 {n : Nat} {X : Prop} {Q : Int32 → z_Mem → Prop} : ∀ (m : Nat) {x1 : Int32} {x2 : Int32} {x3 : Int32} {x4 : Int32} {M : z_Mem} {r : q_R} (S : y_S n M) (R : q_rep n M r) (H : P_X12_sendsNext_21 (n + 40) Q m x1 x2 x3 x4 M) (K : ∀ x M1 r1, Q x M1 → y_S n M1 → q_rep n M1 r1 → qF_sendsNext_21 x1 x2 x3 x4 r = (x, r1) → X), X := by
  intro m
  induction m with
  | zero => intros; rename_i H _; exact False.elim H
  | succ m ih =>
    intro x1 x2 x3 x4 M r S R H K
    have hF := qE_sendsNext_21 x1 x2 x3 x4 r
    unfold P_X12_sendsNext_21 at H
    rcases q_em H with ⟨c1, H⟩ | ⟨c1, H⟩
    · skip
      replace hF := hF.trans (if_pos c1)
      refine qX_sends S R H (fun M_2 r_M_2 H S_M_2 R_M_2 u => ?_)
      replace hF := hF.trans (q_ste u.symm)
      exact K _ _ _ H S_M_2 R_M_2 (qUr_sendsNext_21 hF)
    · skip
      replace hF := hF.trans (if_neg c1)
      rcases q_em H with ⟨c2, H⟩ | ⟨c2, H⟩
      · skip
        replace hF := hF.trans (if_pos c2)
        refine qX_sends S R H (fun M_4 r_M_4 H S_M_4 R_M_4 u => ?_)
        replace hF := hF.trans (q_ste u.symm)
        exact K _ _ _ H S_M_4 R_M_4 (qUr_sendsNext_21 hF)
      · skip
        replace hF := hF.trans (if_neg c2)
        refine qX_isLost S R H (fun x_5 M_5 r_M_5 H S_M_5 R_M_5 u => ?_)
        replace hF := hF.trans (q_ste2 u)
        rcases q_em H with ⟨c3, H⟩ | ⟨c3, H⟩
        · skip
          replace hF := hF.trans (if_pos c3)
          refine qX_sends S_M_5 R_M_5 H (fun M_7 r_M_7 H S_M_7 R_M_7 u => ?_)
          replace hF := hF.trans (q_ste u.symm)
          exact K _ _ _ H S_M_7 R_M_7 (qUr_sendsNext_21 hF)
        · skip
          replace hF := hF.trans (if_neg c3)
          obtain ⟨x_8, e_x_8, H⟩ := q_all H
          replace hF := hF.trans (q_ste e_x_8)
          replace hF := qUl_sendsNext_21 hF
          exact ih S_M_5 R_M_5 H (fun x M1 r1 q1 q2 q3 u => K x M1 r1 q1 q2 q3 (hF.trans u))
set_option maxRecDepth 100000 in
set_option maxHeartbeats 4000000 in
theorem qX_sendsNext_76 {n : Nat} {X : Prop} {Q : Int32 → z_Mem → Prop} : ∀ (m : Nat) {x1 : Int32} {x2 : Int32} {M : z_Mem} {r : q_R} (S : y_S n M) (R : q_rep n M r) (H : P_X12_sendsNext_76 (n + 40) Q m x1 x2 M) (K : ∀ x M1 r1, Q x M1 → y_S n M1 → q_rep n M1 r1 → qF_sendsNext_76 x1 x2 r = (x, r1) → X), X := by
  intro m
  induction m with
  | zero => intros; rename_i H _; exact False.elim H
  | succ m ih =>
    intro x1 x2 M r S R H K
    have hF := qE_sendsNext_76 x1 x2 r
    unfold P_X12_sendsNext_76 at H
    rcases q_em H with ⟨c1, H⟩ | ⟨c1, H⟩
    · skip
      replace hF := hF.trans (if_pos c1)
      exact K _ _ _ H S R (qUr_sendsNext_76 hF)
    · skip
      replace hF := hF.trans (if_neg c1)
      try simp only [qf_1590 R] at H
      obtain ⟨x_11, e_x_11, H⟩ := q_all H
      replace hF := hF.trans (q_ste e_x_11)
      refine qX_newOf S R H (fun x_12 M_12 r_M_12 H S_M_12 R_M_12 u => ?_)
      replace hF := hF.trans (q_ste2 u)
      rcases q_em H with ⟨c2, H⟩ | ⟨c2, H⟩
      · skip
        replace hF := hF.trans (if_pos c2)
        obtain ⟨x_14, e_x_14, H⟩ := q_all H
        replace hF := hF.trans (q_ste e_x_14)
        replace hF := qUl_sendsNext_76 hF
        exact ih S_M_12 R_M_12 H (fun x M1 r1 q1 q2 q3 u => K x M1 r1 q1 q2 q3 (hF.trans u))
      · skip
        replace hF := hF.trans (if_neg c2)
        replace H := z_nne (s_1587_40 S_M_12) H
        replace H := H.2
        replace H := H.2
        try simp only [qa_67 R_M_12] at H
        obtain ⟨M_19, e_M_19, H⟩ := q_all H
        have S_M_19 : y_S n M_19 := by rw [e_M_19]; exact S_sai S_M_12
        have R_M_19 := rep_sai R_M_12 (by decide) (by decide) e_M_19
        obtain ⟨r_M_19, h_M_19⟩ := q_gen R_M_19
        replace hF := hF.trans (q_ste h_M_19.2)
        replace R_M_19 := h_M_19.1
        obtain ⟨M_20, e_M_20, H⟩ := q_all H
        have S_M_20 : y_S n M_20 := by rw [e_M_20]; exact S_sfi S_M_19
        have R_M_20 := rep_sfi R_M_19 e_M_20
        obtain ⟨r_M_20, h_M_20⟩ := q_gen R_M_20
        replace hF := hF.trans (q_ste h_M_20.2)
        replace R_M_20 := h_M_20.1
        replace H := z_nne (s_1587_40 S_M_20) H
        replace H := H.2
        try simp only [qa_67 R_M_20] at H
        refine qX_sends S_M_20 R_M_20 H (fun M_24 r_M_24 H S_M_24 R_M_24 u => ?_)
        replace hF := hF.trans (q_ste u.symm)
        exact K _ _ _ H S_M_24 R_M_24 (qUr_sendsNext_76 hF)
set_option maxRecDepth 100000 in
set_option maxHeartbeats 4000000 in
theorem qX_sendsNext_2 {n : Nat} {X : Prop} {Q : Int32 → z_Mem → Prop} : ∀ (m : Nat) {x1 : Int32} {x2 : Int32} {M : z_Mem} {r : q_R} (S : y_S n M) (R : q_rep n M r) (H : P_X12_sendsNext_2 (n + 40) Q m x1 x2 M) (K : ∀ x M1 r1, Q x M1 → y_S n M1 → q_rep n M1 r1 → qF_sendsNext_2 x1 x2 r = (x, r1) → X), X := by
  intro m
  induction m with
  | zero => intros; rename_i H _; exact False.elim H
  | succ m ih =>
    intro x1 x2 M r S R H K
    have hF := qE_sendsNext_2 x1 x2 r
    unfold P_X12_sendsNext_2 at H
    rcases q_em H with ⟨c1, H⟩ | ⟨c1, H⟩
    · skip
      replace hF := hF.trans (if_pos c1)
      obtain ⟨m, H⟩ := H
      exact qX_sendsNext_76 m S R H (fun x M1 r1 q1 q2 q3 u => K x M1 r1 q1 q2 q3 (qUr_sendsNext_2 (hF.trans (congrArg Sum.inr u))))
    · skip
      replace hF := hF.trans (if_neg c1)
      refine qX_firstLost S R H (fun x_27 M_27 r_M_27 H S_M_27 R_M_27 u => ?_)
      replace hF := hF.trans (q_ste2 u)
      rcases q_em H with ⟨c2, H⟩ | ⟨c2, H⟩
      · skip
        replace hF := hF.trans (if_pos c2)
        obtain ⟨x_29, e_x_29, H⟩ := q_all H
        replace hF := hF.trans (q_ste e_x_29)
        replace hF := qUl_sendsNext_2 hF
        exact ih S_M_27 R_M_27 H (fun x M1 r1 q1 q2 q3 u => K x M1 r1 q1 q2 q3 (hF.trans u))
      · skip
        replace hF := hF.trans (if_neg c2)
        obtain ⟨m, H⟩ := H
        exact qX_sendsNext_21 m S_M_27 R_M_27 H (fun x M1 r1 q1 q2 q3 u => K x M1 r1 q1 q2 q3 (qUr_sendsNext_2 (hF.trans (congrArg Sum.inr u))))
set_option maxRecDepth 100000 in
set_option maxHeartbeats 4000000 in
theorem qX_sendsNext {n : Nat} {X : Prop} {Q : Int32 → z_Mem → Prop} {p1 : Int32} {M : z_Mem} {r : q_R} (S : y_S n M) (R : q_rep n M r) (H : P_X12_sendsNext (n + 40) p1 M Q) (K : ∀ x M1 r1, Q x M1 → y_S n M1 → q_rep n M1 r1 → qF_sendsNext p1 r = (x, r1) → X) : X := by
  have hF := qE_sendsNext p1 r
  unfold P_X12_sendsNext at H
  obtain ⟨m, H⟩ := H
  exact qX_sendsNext_2 m S R H (fun x M1 r1 q1 q2 q3 u => K x M1 r1 q1 q2 q3 (hF.trans u))
set_option maxRecDepth 100000 in
set_option maxHeartbeats 4000000 in
theorem qX_sendsAll_100 {n : Nat} {X : Prop} {Q : z_Mem → Prop} {QJ44 : Int32 → z_Mem → Prop} {x1 : Int32} {M : z_Mem} {r : q_R} (S : y_S n M) (R : q_rep n M r) (H : P_X12_sendsAll_100 (n + 40) Q QJ44 x1 M) (K : ∀ M1 r1, Q M1 → y_S n M1 → q_rep n M1 r1 → qF_sendsAll_100 x1 r = (.inr r1) → X) (KJ44 : ∀ v0 M1 r1, QJ44 v0 M1 → y_S n M1 → q_rep n M1 r1 → qF_sendsAll_100 x1 r = (.inl (v0, r1)) → X) : X := by
  have hF := qE_sendsAll_100 x1 r
  unfold P_X12_sendsAll_100 at H
  exact KJ44 _ _ _ H S R hF
set_option maxRecDepth 100000 in
set_option maxHeartbeats 4000000 in
theorem qX_sendsAll_85 {n : Nat} {X : Prop} {Q : z_Mem → Prop} {QJ44 : Int32 → z_Mem → Prop} {x2 : Int32} {t0 : Int32} {M : z_Mem} {r : q_R} (S : y_S n M) (R : q_rep n M r) (H : P_X12_sendsAll_85 (n + 40) Q QJ44 x2 t0 M) (K : ∀ M1 r1, Q M1 → y_S n M1 → q_rep n M1 r1 → qF_sendsAll_85 x2 t0 r = (.inr r1) → X) (KJ44 : ∀ v0 M1 r1, QJ44 v0 M1 → y_S n M1 → q_rep n M1 r1 → qF_sendsAll_85 x2 t0 r = (.inl (v0, r1)) → X) : X := by
  have hF := qE_sendsAll_85 x2 t0 r
  unfold P_X12_sendsAll_85 at H
  rcases q_em H with ⟨c1, H⟩ | ⟨c1, H⟩
  · skip
    replace hF := hF.trans (if_pos c1)
    exact qX_sendsAll_100 S R H (fun M1 r1 q1 q2 q3 u => K M1 r1 q1 q2 q3 (hF.trans u)) (fun v0 M1 r1 q1 q2 q3 u => KJ44 v0 M1 r1 q1 q2 q3 (hF.trans u))
  · skip
    replace hF := hF.trans (if_neg c1)
    replace H := z_nne (s_1628_40 S) H
    replace H := H.2
    replace H := H.2
    try simp only [qa_105 R] at H
    obtain ⟨M_6, e_M_6, H⟩ := q_all H
    have S_M_6 : y_S n M_6 := by rw [e_M_6]; exact S_sai S
    have R_M_6 := rep_sai R (by decide) (by decide) e_M_6
    obtain ⟨r_M_6, h_M_6⟩ := q_gen R_M_6
    replace hF := hF.trans (q_ste h_M_6.2)
    replace R_M_6 := h_M_6.1
    exact qX_sendsAll_100 S_M_6 R_M_6 H (fun M1 r1 q1 q2 q3 u => K M1 r1 q1 q2 q3 (hF.trans u)) (fun v0 M1 r1 q1 q2 q3 u => KJ44 v0 M1 r1 q1 q2 q3 (hF.trans u))
set_option maxRecDepth 100000 in
set_option maxHeartbeats 4000000 in
theorem qX_sendsAll_84 {n : Nat} {X : Prop} {Q : z_Mem → Prop} {QJ44 : Int32 → z_Mem → Prop} {x2 : Int32} {M : z_Mem} {r : q_R} (S : y_S n M) (R : q_rep n M r) (H : P_X12_sendsAll_84 (n + 40) Q QJ44 x2 M) (K : ∀ M1 r1, Q M1 → y_S n M1 → q_rep n M1 r1 → qF_sendsAll_84 x2 r = (.inr r1) → X) (KJ44 : ∀ v0 M1 r1, QJ44 v0 M1 → y_S n M1 → q_rep n M1 r1 → qF_sendsAll_84 x2 r = (.inl (v0, r1)) → X) : X := by
  have hF := qE_sendsAll_84 x2 r
  unfold P_X12_sendsAll_84 at H
  exact qX_sendsAll_85 S R H (fun M1 r1 q1 q2 q3 u => K M1 r1 q1 q2 q3 (hF.trans u)) (fun v0 M1 r1 q1 q2 q3 u => KJ44 v0 M1 r1 q1 q2 q3 (hF.trans u))
set_option maxRecDepth 100000 in
set_option maxHeartbeats 4000000 in
theorem qX_sendsAll_66 {n : Nat} {X : Prop} {Q : z_Mem → Prop} {QJ44 : Int32 → z_Mem → Prop} {t0 : Int32} {M : z_Mem} {r : q_R} (S : y_S n M) (R : q_rep n M r) (H : P_X12_sendsAll_66 (n + 40) Q QJ44 t0 M) (K : ∀ M1 r1, Q M1 → y_S n M1 → q_rep n M1 r1 → qF_sendsAll_66 t0 r = (.inr r1) → X) (KJ44 : ∀ v0 M1 r1, QJ44 v0 M1 → y_S n M1 → q_rep n M1 r1 → qF_sendsAll_66 t0 r = (.inl (v0, r1)) → X) : X := by
  have hF := qE_sendsAll_66 t0 r
  unfold P_X12_sendsAll_66 at H
  rcases q_em H with ⟨c1, H⟩ | ⟨c1, H⟩
  · skip
    replace hF := hF.trans (if_pos c1)
    exact qX_sendsAll_84 S R H (fun M1 r1 q1 q2 q3 u => K M1 r1 q1 q2 q3 (hF.trans u)) (fun v0 M1 r1 q1 q2 q3 u => KJ44 v0 M1 r1 q1 q2 q3 (hF.trans u))
  · skip
    replace hF := hF.trans (if_neg c1)
    refine qX_sendsNext S R H (fun x_8 M_8 r_M_8 H S_M_8 R_M_8 u => ?_)
    replace hF := hF.trans (q_ste2 u)
    rcases q_em H with ⟨c2, H⟩ | ⟨c2, H⟩
    · skip
      replace hF := hF.trans (if_pos c2)
      exact qX_sendsAll_84 S_M_8 R_M_8 H (fun M1 r1 q1 q2 q3 u => K M1 r1 q1 q2 q3 (hF.trans u)) (fun v0 M1 r1 q1 q2 q3 u => KJ44 v0 M1 r1 q1 q2 q3 (hF.trans u))
    · skip
      replace hF := hF.trans (if_neg c2)
      exact qX_sendsAll_85 S_M_8 R_M_8 H (fun M1 r1 q1 q2 q3 u => K M1 r1 q1 q2 q3 (hF.trans u)) (fun v0 M1 r1 q1 q2 q3 u => KJ44 v0 M1 r1 q1 q2 q3 (hF.trans u))
set_option maxRecDepth 100000 in
set_option maxHeartbeats 4000000 in
theorem qX_sendsAll_44 {n : Nat} {X : Prop} {Q : z_Mem → Prop} : ∀ (m : Nat) {x1 : Int32} {M : z_Mem} {r : q_R} (S : y_S n M) (R : q_rep n M r) (H : P_X12_sendsAll_44 (n + 40) Q m x1 M) (K : ∀ M1 r1, Q M1 → y_S n M1 → q_rep n M1 r1 → qF_sendsAll_44 x1 r = r1 → X), X := by
  intro m
  induction m with
  | zero => intros; rename_i H _; exact False.elim H
  | succ m ih =>
    intro x1 M r S R H K
    have hF := qE_sendsAll_44 x1 r
    unfold P_X12_sendsAll_44 at H
    rcases q_em H with ⟨c1, H⟩ | ⟨c1, H⟩
    · skip
      replace hF := hF.trans (if_pos c1)
      exact K _ _ H S R (qUr_sendsAll_44 hF)
    · skip
      replace hF := hF.trans (if_neg c1)
      try simp only [qf_1606 R] at H
      rcases q_em H with ⟨c2, H⟩ | ⟨c2, H⟩
      · skip
        replace hF := hF.trans (if_pos c2)
        exact qX_sendsAll_66 S R H (fun M1 r1 q1 q2 q3 u => K M1 r1 q1 q2 q3 (qUr_sendsAll_44 (hF.trans u))) (fun v0 M1 r1 q1 q2 q3 u => ih q2 q3 q1 (fun M1 r1 q1 q2 q3 u2 => K M1 r1 q1 q2 q3 ((qUl_sendsAll_44 (hF.trans u)).trans u2))) 
      · skip
        replace hF := hF.trans (if_neg c2)
        refine qX_nextPath S R H (fun x_13 M_13 r_M_13 H S_M_13 R_M_13 u => ?_)
        replace hF := hF.trans (q_ste2 u)
        exact qX_sendsAll_66 S_M_13 R_M_13 H (fun M1 r1 q1 q2 q3 u => K M1 r1 q1 q2 q3 (qUr_sendsAll_44 (hF.trans u))) (fun v0 M1 r1 q1 q2 q3 u => ih q2 q3 q1 (fun M1 r1 q1 q2 q3 u2 => K M1 r1 q1 q2 q3 ((qUl_sendsAll_44 (hF.trans u)).trans u2))) 
set_option maxRecDepth 100000 in
set_option maxHeartbeats 4000000 in
theorem qX_sendsAll_43 {n : Nat} {X : Prop} {Q : z_Mem → Prop} {t0 : Int32} {M : z_Mem} {r : q_R} (S : y_S n M) (R : q_rep n M r) (H : P_X12_sendsAll_43 (n + 40) Q t0 M) (K : ∀ M1 r1, Q M1 → y_S n M1 → q_rep n M1 r1 → qF_sendsAll_43 t0 r = r1 → X) : X := by
  have hF := qE_sendsAll_43 t0 r
  unfold P_X12_sendsAll_43 at H
  obtain ⟨m, H⟩ := H
  exact qX_sendsAll_44 m S R H (fun M1 r1 q1 q2 q3 u => K M1 r1 q1 q2 q3 (hF.trans u))
set_option maxRecDepth 100000 in
set_option maxHeartbeats 4000000 in
theorem qX_sendsAll_38 {n : Nat} {X : Prop} {Q : z_Mem → Prop} {M : z_Mem} {r : q_R} (S : y_S n M) (R : q_rep n M r) (H : P_X12_sendsAll_38 (n + 40) Q M) (K : ∀ M1 r1, Q M1 → y_S n M1 → q_rep n M1 r1 → qF_sendsAll_38 r = r1 → X) : X := by
  have hF := qE_sendsAll_38 r
  unfold P_X12_sendsAll_38 at H
  exact qX_sendsAll_43 S R H (fun M1 r1 q1 q2 q3 u => K M1 r1 q1 q2 q3 (hF.trans u))
set_option maxRecDepth 100000 in
set_option maxHeartbeats 4000000 in
theorem qX_sendsAll_42 {n : Nat} {X : Prop} {Q : z_Mem → Prop} {M : z_Mem} {r : q_R} (S : y_S n M) (R : q_rep n M r) (H : P_X12_sendsAll_42 (n + 40) Q M) (K : ∀ M1 r1, Q M1 → y_S n M1 → q_rep n M1 r1 → qF_sendsAll_42 r = r1 → X) : X := by
  have hF := qE_sendsAll_42 r
  unfold P_X12_sendsAll_42 at H
  exact qX_sendsAll_43 S R H (fun M1 r1 q1 q2 q3 u => K M1 r1 q1 q2 q3 (hF.trans u))
set_option maxRecDepth 100000 in
set_option maxHeartbeats 4000000 in
theorem qX_sendsAll {n : Nat} {X : Prop} {Q : z_Mem → Prop} {M : z_Mem} {r : q_R} (S : y_S n M) (R : q_rep n M r) (H : P_X12_sendsAll (n + 40) M Q) (K : ∀ M1 r1, Q M1 → y_S n M1 → q_rep n M1 r1 → qF_sendsAll r = r1 → X) : X := by
  have hF := qE_sendsAll r
  unfold P_X12_sendsAll at H
  replace H := z_nne (s_1628_40 S) H
  replace H := H.2
  obtain ⟨M_18, e_M_18, H⟩ := q_all H
  have S_M_18 : y_S n M_18 := by rw [e_M_18]; exact S_sai S
  have R_M_18 := rep_sai R (by decide) (by decide) e_M_18
  obtain ⟨r_M_18, h_M_18⟩ := q_gen R_M_18
  replace hF := hF.trans (q_ste h_M_18.2)
  replace R_M_18 := h_M_18.1
  replace H := z_nne (s_1628_40 S_M_18) H
  replace H := H.2
  obtain ⟨M_22, e_M_22, H⟩ := q_all H
  have S_M_22 : y_S n M_22 := by rw [e_M_22]; exact S_sai S_M_18
  have R_M_22 := rep_sai R_M_18 (by decide) (by decide) e_M_22
  obtain ⟨r_M_22, h_M_22⟩ := q_gen R_M_22
  replace hF := hF.trans (q_ste h_M_22.2)
  replace R_M_22 := h_M_22.1
  try simp only [qf_1577 R_M_22] at H
  rcases q_em H with ⟨c1, H⟩ | ⟨c1, H⟩
  · skip
    replace hF := hF.trans (if_pos c1)
    exact qX_sendsAll_38 S_M_22 R_M_22 H (fun M1 r1 q1 q2 q3 u => K M1 r1 q1 q2 q3 (hF.trans u))
  · skip
    replace hF := hF.trans (if_neg c1)
    try simp only [qf_1577 R_M_22] at H
    rcases q_em H with ⟨c2, H⟩ | ⟨c2, H⟩
    · skip
      replace hF := hF.trans (if_pos c2)
      try simp only [qf_1578 R_M_22] at H
      rcases q_em H with ⟨c3, H⟩ | ⟨c3, H⟩
      · skip
        replace hF := hF.trans (if_pos c3)
        exact qX_sendsAll_42 S_M_22 R_M_22 H (fun M1 r1 q1 q2 q3 u => K M1 r1 q1 q2 q3 (hF.trans u))
      · skip
        replace hF := hF.trans (if_neg c3)
        exact qX_sendsAll_38 S_M_22 R_M_22 H (fun M1 r1 q1 q2 q3 u => K M1 r1 q1 q2 q3 (hF.trans u))
    · skip
      replace hF := hF.trans (if_neg c2)
      exact qX_sendsAll_42 S_M_22 R_M_22 H (fun M1 r1 q1 q2 q3 u => K M1 r1 q1 q2 q3 (hF.trans u))
set_option maxRecDepth 100000 in
set_option maxHeartbeats 4000000 in
theorem qX_probesOn_37 {n : Nat} {X : Prop} {Q : z_Mem → Prop} {QJ9 : Int32 → Int32 → Int32 → z_Mem → Prop} {x1 : Int32} {x3 : Int32} {t0 : Int32} {M : z_Mem} {r : q_R} (S : y_S n M) (R : q_rep n M r) (H : P_X12_probesOn_37 (n + 40) Q QJ9 x1 x3 t0 M) (K : ∀ M1 r1, Q M1 → y_S n M1 → q_rep n M1 r1 → qF_probesOn_37 x1 x3 t0 r = (.inr r1) → X) (KJ9 : ∀ v0 v1 v2 M1 r1, QJ9 v0 v1 v2 M1 → y_S n M1 → q_rep n M1 r1 → qF_probesOn_37 x1 x3 t0 r = (.inl (v0, v1, v2, r1)) → X) : X := by
  have hF := qE_probesOn_37 x1 x3 t0 r
  unfold P_X12_probesOn_37 at H
  obtain ⟨x_1, e_x_1, H⟩ := q_all H
  replace hF := hF.trans (q_ste e_x_1)
  exact KJ9 _ _ _ _ _ H S R hF
