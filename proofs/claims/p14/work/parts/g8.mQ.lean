/-! ===== THE REFERENCE: what every write keeps, every method keeps ===== -/
def y_mQ (n : Nat) (R : z_Mem → Prop) : Prop := (∀ (M : z_Mem) (x j : Nat) (v : Int32), 41 ≤ x → x < 107 → x ≠ 92 → R M → R (z_sai M (n + x) j v)) ∧ (∀ (M : z_Mem) (j : Nat), R M → R (z_sai M (n + 92) j 1)) ∧ (∀ (M : z_Mem) (g : Nat) (v : Int32), g ≠ 1583 → R M → R (z_sfi M g (n + 40) v))
set_option maxRecDepth 100000 in
set_option maxHeartbeats 4000000 in
theorem mQ_in {n : Nat} {R : z_Mem → Prop} (hR : y_mQ n R) {Q Post : Int32 → z_Mem → Prop} {p1 : Int32} {p2 : Int32} {p3 : Int32} {M : z_Mem} (S_M : y_S n M) (r_M : R M) (H : P_X12_in p1 p2 p3 M Q) (K : ∀ x M1, Q x M1 → y_S n M1 → R M1 → Post x M1) : P_X12_in p1 p2 p3 M Post := by
  unfold P_X12_in at H ⊢
  refine And.intro (fun c1 => ?_) (fun c1 => ?_)
  · replace H := H.1 c1
    exact K _ _ H S_M r_M
  · replace H := H.2 c1
    refine And.intro (fun c2 => ?_) (fun c2 => ?_)
    · replace H := H.1 c2
      exact K _ _ H S_M r_M
    · replace H := H.2 c2
      exact K _ _ H S_M r_M
set_option maxRecDepth 100000 in
set_option maxHeartbeats 4000000 in
theorem mQ_goes {n : Nat} {R : z_Mem → Prop} (hR : y_mQ n R) {Q Post : Int32 → z_Mem → Prop} {p1 : Int32} {p2 : Int32} {p3 : Int32} {M : z_Mem} (S_M : y_S n M) (r_M : R M) (H : P_X12_goes (n + 40) p1 p2 p3 M Q) (K : ∀ x M1, Q x M1 → y_S n M1 → R M1 → Post x M1) : P_X12_goes (n + 40) p1 p2 p3 M Post := by
  unfold P_X12_goes at H ⊢
  refine And.intro (fun c1 => ?_) (fun c1 => ?_)
  · replace H := H.1 c1
    intro M_13 e_M_13
    replace H := H M_13 e_M_13
    have S_M_13 : y_S n M_13 := by rw [e_M_13]; exact S_sfi S_M
    have r_M_13 : R M_13 := by rw [e_M_13]; exact hR.2.2 _ 1630 _ (by decide) r_M
    refine And.intro (fun c2 => ?_) (fun c2 => ?_)
    · replace H := H.1 c2
      exact K _ _ H S_M_13 r_M_13
    · replace H := H.2 c2
      exact K _ _ H S_M_13 r_M_13
  · replace H := H.2 c1
    refine And.intro (fun c3 => ?_) (fun c3 => ?_)
    · replace H := H.1 c3
      intro M_10 e_M_10
      replace H := H M_10 e_M_10
      have S_M_10 : y_S n M_10 := by rw [e_M_10]; exact S_sfi S_M
      have r_M_10 : R M_10 := by rw [e_M_10]; exact hR.2.2 _ 1630 _ (by decide) r_M
      refine And.intro (fun c4 => ?_) (fun c4 => ?_)
      · replace H := H.1 c4
        exact K _ _ H S_M_10 r_M_10
      · replace H := H.2 c4
        exact K _ _ H S_M_10 r_M_10
    · replace H := H.2 c3
      refine And.intro (fun c5 => ?_) (fun c5 => ?_)
      · replace H := H.1 c5
        intro M_4 e_M_4
        replace H := H M_4 e_M_4
        have S_M_4 : y_S n M_4 := by rw [e_M_4]; exact S_sfi S_M
        have r_M_4 : R M_4 := by rw [e_M_4]; exact hR.2.2 _ 1630 _ (by decide) r_M
        refine And.intro (fun c6 => ?_) (fun c6 => ?_)
        · replace H := H.1 c6
          exact K _ _ H S_M_4 r_M_4
        · replace H := H.2 c6
          exact K _ _ H S_M_4 r_M_4
      · replace H := H.2 c5
        intro M_7 e_M_7
        replace H := H M_7 e_M_7
        have S_M_7 : y_S n M_7 := by rw [e_M_7]; exact S_sfi S_M
        have r_M_7 : R M_7 := by rw [e_M_7]; exact hR.2.2 _ 1630 _ (by decide) r_M
        refine And.intro (fun c7 => ?_) (fun c7 => ?_)
        · replace H := H.1 c7
          exact K _ _ H S_M_7 r_M_7
        · replace H := H.2 c7
          exact K _ _ H S_M_7 r_M_7
set_option maxRecDepth 100000 in
set_option maxHeartbeats 4000000 in
theorem mQ_isPath {n : Nat} {R : z_Mem → Prop} (hR : y_mQ n R) {Q Post : Int32 → z_Mem → Prop} {p1 : Int32} {M : z_Mem} (S_M : y_S n M) (r_M : R M) (H : P_X12_isPath p1 M Q) (K : ∀ x M1, Q x M1 → y_S n M1 → R M1 → Post x M1) : P_X12_isPath p1 M Post := by
  unfold P_X12_isPath at H ⊢
  refine mQ_in hR S_M r_M H (fun x_1 M_1 H S_M_1 r_M_1 => ?_)
  exact K _ _ H S_M_1 r_M_1
set_option maxRecDepth 100000 in
set_option maxHeartbeats 4000000 in
theorem mQ_isStream {n : Nat} {R : z_Mem → Prop} (hR : y_mQ n R) {Q Post : Int32 → z_Mem → Prop} {p1 : Int32} {M : z_Mem} (S_M : y_S n M) (r_M : R M) (H : P_X12_isStream p1 M Q) (K : ∀ x M1, Q x M1 → y_S n M1 → R M1 → Post x M1) : P_X12_isStream p1 M Post := by
  unfold P_X12_isStream at H ⊢
  refine mQ_in hR S_M r_M H (fun x_1 M_1 H S_M_1 r_M_1 => ?_)
  exact K _ _ H S_M_1 r_M_1
set_option maxRecDepth 100000 in
set_option maxHeartbeats 4000000 in
theorem mQ_max {n : Nat} {R : z_Mem → Prop} (hR : y_mQ n R) {Q Post : Int32 → z_Mem → Prop} {p1 : Int32} {p2 : Int32} {M : z_Mem} (S_M : y_S n M) (r_M : R M) (H : P_X12_max p1 p2 M Q) (K : ∀ x M1, Q x M1 → y_S n M1 → R M1 → Post x M1) : P_X12_max p1 p2 M Post := by
  unfold P_X12_max at H ⊢
  refine And.intro (fun c1 => ?_) (fun c1 => ?_)
  · replace H := H.1 c1
    exact K _ _ H S_M r_M
  · replace H := H.2 c1
    exact K _ _ H S_M r_M
set_option maxRecDepth 100000 in
set_option maxHeartbeats 4000000 in
theorem mQ_puts_111 {n : Nat} {R : z_Mem → Prop} (hR : y_mQ n R) {Q Post : z_Mem → Prop} {x1 : Int32} {x2 : Int32} {x3 : Int32} {M : z_Mem} (S_M : y_S n M) (r_M : R M) (H : P_X12_puts_111 (n + 40) Q x1 x2 x3 M) (K : ∀ M1, Q M1 → y_S n M1 → R M1 → Post M1) : P_X12_puts_111 (n + 40) Post x1 x2 x3 M := by
  unfold P_X12_puts_111 at H ⊢
  replace H := z_nne (s_1548_40 S_M) H
  refine z_nn_of (s_1548_40 S_M) ?_
  refine And.intro H.1 ?_
  replace H := H.2
  intro M_5 e_M_5
  replace H := H M_5 e_M_5
  have S_M_5 : y_S n M_5 := by rw [e_M_5]; exact S_sai S_M
  have r_M_5 : R M_5 := by rw [e_M_5]; exact hR.1 _ 52 _ _ (by decide) (by decide) (by decide) r_M
  replace H := z_nne (s_1549_40 S_M_5) H
  refine z_nn_of (s_1549_40 S_M_5) ?_
  refine And.intro H.1 ?_
  replace H := H.2
  intro M_10 e_M_10
  replace H := H M_10 e_M_10
  have S_M_10 : y_S n M_10 := by rw [e_M_10]; exact S_sai S_M_5
  have r_M_10 : R M_10 := by rw [e_M_10]; exact hR.1 _ 53 _ _ (by decide) (by decide) (by decide) r_M_5
  replace H := z_nne (s_1550_40 S_M_10) H
  refine z_nn_of (s_1550_40 S_M_10) ?_
  refine And.intro H.1 ?_
  replace H := H.2
  intro M_15 e_M_15
  replace H := H M_15 e_M_15
  have S_M_15 : y_S n M_15 := by rw [e_M_15]; exact S_sai S_M_10
  have r_M_15 : R M_15 := by rw [e_M_15]; exact hR.1 _ 54 _ _ (by decide) (by decide) (by decide) r_M_10
  replace H := z_nne (s_1547_40 S_M_15) H
  refine z_nn_of (s_1547_40 S_M_15) ?_
  refine And.intro H.1 ?_
  replace H := H.2
  replace H := z_nne (s_1546_40 S_M_15) H
  refine z_nn_of (s_1546_40 S_M_15) ?_
  refine And.intro H.1 ?_
  replace H := H.2
  intro M_23 e_M_23
  replace H := H M_23 e_M_23
  have S_M_23 : y_S n M_23 := by rw [e_M_23]; exact S_sai S_M_15
  have r_M_23 : R M_23 := by rw [e_M_23]; exact hR.1 _ 50 _ _ (by decide) (by decide) (by decide) r_M_15
  replace H := z_nne (s_1547_40 S_M_23) H
  refine z_nn_of (s_1547_40 S_M_23) ?_
  refine And.intro H.1 ?_
  replace H := H.2
  refine And.intro H.1 ?_
  replace H := H.2
  intro M_28 e_M_28
  replace H := H M_28 e_M_28
  have S_M_28 : y_S n M_28 := by rw [e_M_28]; exact S_sai S_M_23
  have r_M_28 : R M_28 := by rw [e_M_28]; exact hR.1 _ 51 _ _ (by decide) (by decide) (by decide) r_M_23
  intro M_30 e_M_30
  replace H := H M_30 e_M_30
  have S_M_30 : y_S n M_30 := by rw [e_M_30]; exact S_sfi S_M_28
  have r_M_30 : R M_30 := by rw [e_M_30]; exact hR.2.2 _ 1551 _ (by decide) r_M_28
  exact K _ H S_M_30 r_M_30
set_option maxRecDepth 100000 in
set_option maxHeartbeats 4000000 in
theorem mQ_puts_110 {n : Nat} {R : z_Mem → Prop} (hR : y_mQ n R) {Q Post : z_Mem → Prop} {x1 : Int32} {x2 : Int32} {x3 : Int32} {t1 : Int32} {t2 : Int32} {t0 : Nat} {o_t0 : Option Nat} {M : z_Mem} (h0_t0 : 41 ≤ t0) (h1_t0 : t0 < 107) (h2_t0 : t0 ≠ 92) (ho_t0 : o_t0 = some (n + t0)) (S_M : y_S n M) (r_M : R M) (H : P_X12_puts_110 (n + 40) Q x1 x2 x3 o_t0 t1 t2 M) (K : ∀ M1, Q M1 → y_S n M1 → R M1 → Post M1) : P_X12_puts_110 (n + 40) Post x1 x2 x3 o_t0 t1 t2 M := by
  subst ho_t0
  unfold P_X12_puts_110 at H ⊢
  replace H := z_nne rfl H
  refine z_nn_of rfl ?_
  refine And.intro H.1 ?_
  replace H := H.2
  intro M_33 e_M_33
  replace H := H M_33 e_M_33
  have S_M_33 : y_S n M_33 := by rw [e_M_33]; exact S_sai S_M
  have r_M_33 : R M_33 := by rw [e_M_33]; exact hR.1 _ t0 _ _ h0_t0 h1_t0 h2_t0 r_M
  exact mQ_puts_111 hR S_M_33 r_M_33 H K
set_option maxRecDepth 100000 in
set_option maxHeartbeats 4000000 in
theorem mQ_puts_60 {n : Nat} {R : z_Mem → Prop} (hR : y_mQ n R) {Q Post : z_Mem → Prop} {x1 : Int32} {x2 : Int32} {x3 : Int32} {t0 : Int32} {M : z_Mem} (S_M : y_S n M) (r_M : R M) (H : P_X12_puts_60 (n + 40) Q x1 x2 x3 t0 M) (K : ∀ M1, Q M1 → y_S n M1 → R M1 → Post M1) : P_X12_puts_60 (n + 40) Post x1 x2 x3 t0 M := by
  unfold P_X12_puts_60 at H ⊢
  refine And.intro (fun c1 => ?_) (fun c1 => ?_)
  · replace H := H.1 c1
    refine And.intro (fun c2 => ?_) (fun c2 => ?_)
    · replace H := H.1 c2
      replace H := z_nne (s_1547_40 S_M) H
      refine z_nn_of (s_1547_40 S_M) ?_
      refine And.intro H.1 ?_
      replace H := H.2
      replace H := z_nne (s_1540_40 S_M) H
      refine z_nn_of (s_1540_40 S_M) ?_
      refine And.intro H.1 ?_
      replace H := H.2
      refine And.intro (fun c3 => ?_) (fun c3 => ?_)
      · replace H := H.1 c3
        exact mQ_puts_110 hR (by decide) (by decide) (by decide) (s_1603_40 S_M) S_M r_M H K
      · replace H := H.2 c3
        exact mQ_puts_110 hR (by decide) (by decide) (by decide) (s_1603_40 S_M) S_M r_M H K
    · replace H := H.2 c2
      exact mQ_puts_111 hR S_M r_M H K
  · replace H := H.2 c1
    refine And.intro (fun c4 => ?_) (fun c4 => ?_)
    · replace H := H.1 c4
      replace H := z_nne (s_1599_40 S_M) H
      refine z_nn_of (s_1599_40 S_M) ?_
      refine And.intro H.1 ?_
      replace H := H.2
      intro M_48 e_M_48
      replace H := H M_48 e_M_48
      have S_M_48 : y_S n M_48 := by rw [e_M_48]; exact S_sai S_M
      have r_M_48 : R M_48 := by rw [e_M_48]; exact hR.1 _ 77 _ _ (by decide) (by decide) (by decide) r_M
      exact K _ H S_M_48 r_M_48
    · replace H := H.2 c4
      exact K _ H S_M r_M
set_option maxRecDepth 100000 in
set_option maxHeartbeats 4000000 in
theorem mQ_puts_55 {n : Nat} {R : z_Mem → Prop} (hR : y_mQ n R) {Q Post : z_Mem → Prop} {x1 : Int32} {x2 : Int32} {x3 : Int32} {M : z_Mem} (S_M : y_S n M) (r_M : R M) (H : P_X12_puts_55 (n + 40) Q x1 x2 x3 M) (K : ∀ M1, Q M1 → y_S n M1 → R M1 → Post M1) : P_X12_puts_55 (n + 40) Post x1 x2 x3 M := by
  unfold P_X12_puts_55 at H ⊢
  exact mQ_puts_60 hR S_M r_M H K
set_option maxRecDepth 100000 in
set_option maxHeartbeats 4000000 in
theorem mQ_puts_35 {n : Nat} {R : z_Mem → Prop} (hR : y_mQ n R) {Q Post : z_Mem → Prop} {x1 : Int32} {x2 : Int32} {x3 : Int32} {x4 : Int32} {M : z_Mem} (S_M : y_S n M) (r_M : R M) (H : P_X12_puts_35 (n + 40) Q x1 x2 x3 x4 M) (K : ∀ M1, Q M1 → y_S n M1 → R M1 → Post M1) : P_X12_puts_35 (n + 40) Post x1 x2 x3 x4 M := by
  unfold P_X12_puts_35 at H ⊢
  refine And.intro (fun c1 => ?_) (fun c1 => ?_)
  · replace H := H.1 c1
    replace H := z_nne (s_1547_40 S_M) H
    refine z_nn_of (s_1547_40 S_M) ?_
    refine And.intro H.1 ?_
    replace H := H.2
    replace H := z_nne (s_1539_40 S_M) H
    refine z_nn_of (s_1539_40 S_M) ?_
    refine And.intro H.1 ?_
    replace H := H.2
    refine And.intro (fun c2 => ?_) (fun c2 => ?_)
    · replace H := H.1 c2
      exact mQ_puts_60 hR S_M r_M H K
    · replace H := H.2 c2
      exact mQ_puts_55 hR S_M r_M H K
  · replace H := H.2 c1
    exact mQ_puts_55 hR S_M r_M H K
set_option maxRecDepth 100000 in
set_option maxHeartbeats 4000000 in
theorem mQ_puts {n : Nat} {R : z_Mem → Prop} (hR : y_mQ n R) {Q Post : z_Mem → Prop} {p1 : Int32} {p2 : Int32} {p3 : Int32} {M : z_Mem} (S_M : y_S n M) (r_M : R M) (H : P_X12_puts (n + 40) p1 p2 p3 M Q) (K : ∀ M1, Q M1 → y_S n M1 → R M1 → Post M1) : P_X12_puts (n + 40) p1 p2 p3 M Post := by
  unfold P_X12_puts at H ⊢
  replace H := z_nne (s_1541_40 S_M) H
  refine z_nn_of (s_1541_40 S_M) ?_
  refine And.intro H.1 ?_
  replace H := H.2
  intro x_60 e_x_60
  replace H := H x_60 e_x_60
  refine And.intro (fun c1 => ?_) (fun c1 => ?_)
  · replace H := H.1 c1
    replace H := z_nne (s_1542_40 S_M) H
    refine z_nn_of (s_1542_40 S_M) ?_
    refine And.intro H.1 ?_
    replace H := H.2
    refine And.intro (fun c2 => ?_) (fun c2 => ?_)
    · replace H := H.1 c2
      exact mQ_puts_35 hR S_M r_M H K
    · replace H := H.2 c2
      replace H := z_nne (s_1542_40 S_M) H
      refine z_nn_of (s_1542_40 S_M) ?_
      refine And.intro H.1 ?_
      replace H := H.2
      refine And.intro H.1 ?_
      replace H := H.2
      intro M_70 e_M_70
      replace H := H M_70 e_M_70
      have S_M_70 : y_S n M_70 := by rw [e_M_70]; exact S_sai S_M
      have r_M_70 : R M_70 := by rw [e_M_70]; exact hR.1 _ 46 _ _ (by decide) (by decide) (by decide) r_M
      exact mQ_puts_35 hR S_M_70 r_M_70 H K
  · replace H := H.2 c1
    exact mQ_puts_35 hR S_M r_M H K
set_option maxRecDepth 100000 in
set_option maxHeartbeats 4000000 in
theorem mQ_answers {n : Nat} {R : z_Mem → Prop} (hR : y_mQ n R) {Q Post : z_Mem → Prop} {p1 : Int32} {p2 : Int32} {p3 : Int32} {M : z_Mem} (S_M : y_S n M) (r_M : R M) (H : P_X12_answers (n + 40) p1 p2 p3 M Q) (K : ∀ M1, Q M1 → y_S n M1 → R M1 → Post M1) : P_X12_answers (n + 40) p1 p2 p3 M Post := by
  unfold P_X12_answers at H ⊢
  replace H := z_nne (s_1541_40 S_M) H
  refine z_nn_of (s_1541_40 S_M) ?_
  refine And.intro H.1 ?_
  replace H := H.2
  refine And.intro (fun c1 => ?_) (fun c1 => ?_)
  · replace H := H.1 c1
    replace H := z_nne (s_1543_40 S_M) H
    refine z_nn_of (s_1543_40 S_M) ?_
    refine And.intro H.1 ?_
    replace H := H.2
    refine And.intro (fun c2 => ?_) (fun c2 => ?_)
    · replace H := H.1 c2
      replace H := z_nne (s_1555_40 S_M) H
      refine z_nn_of (s_1555_40 S_M) ?_
      refine And.intro H.1 ?_
      replace H := H.2
      intro M_13 e_M_13
      replace H := H M_13 e_M_13
      have S_M_13 : y_S n M_13 := by rw [e_M_13]; exact S_sai S_M
      have r_M_13 : R M_13 := by rw [e_M_13]; exact hR.1 _ 57 _ _ (by decide) (by decide) (by decide) r_M
      replace H := z_nne (s_1556_40 S_M_13) H
      refine z_nn_of (s_1556_40 S_M_13) ?_
      refine And.intro H.1 ?_
      replace H := H.2
      intro M_18 e_M_18
      replace H := H M_18 e_M_18
      have S_M_18 : y_S n M_18 := by rw [e_M_18]; exact S_sai S_M_13
      have r_M_18 : R M_18 := by rw [e_M_18]; exact hR.1 _ 58 _ _ (by decide) (by decide) (by decide) r_M_13
      replace H := z_nne (s_1557_40 S_M_18) H
      refine z_nn_of (s_1557_40 S_M_18) ?_
      refine And.intro H.1 ?_
      replace H := H.2
      intro M_23 e_M_23
      replace H := H M_23 e_M_23
      have S_M_23 : y_S n M_23 := by rw [e_M_23]; exact S_sai S_M_18
      have r_M_23 : R M_23 := by rw [e_M_23]; exact hR.1 _ 59 _ _ (by decide) (by decide) (by decide) r_M_18
      replace H := z_nne (s_1537_40 S_M_23) H
      refine z_nn_of (s_1537_40 S_M_23) ?_
      refine And.intro H.1 ?_
      replace H := H.2
      replace H := z_nne (s_1558_40 S_M_23) H
      refine z_nn_of (s_1558_40 S_M_23) ?_
      refine And.intro H.1 ?_
      replace H := H.2
      intro M_32 e_M_32
      replace H := H M_32 e_M_32
      have S_M_32 : y_S n M_32 := by rw [e_M_32]; exact S_sai S_M_23
      have r_M_32 : R M_32 := by rw [e_M_32]; exact hR.1 _ 60 _ _ (by decide) (by decide) (by decide) r_M_23
      intro M_34 e_M_34
      replace H := H M_34 e_M_34
      have S_M_34 : y_S n M_34 := by rw [e_M_34]; exact S_sfi S_M_32
      have r_M_34 : R M_34 := by rw [e_M_34]; exact hR.2.2 _ 1559 _ (by decide) r_M_32
      exact K _ H S_M_34 r_M_34
    · replace H := H.2 c2
      replace H := z_nne (s_1543_40 S_M) H
      refine z_nn_of (s_1543_40 S_M) ?_
      refine And.intro H.1 ?_
      replace H := H.2
      refine And.intro H.1 ?_
      replace H := H.2
      intro M_39 e_M_39
      replace H := H M_39 e_M_39
      have S_M_39 : y_S n M_39 := by rw [e_M_39]; exact S_sai S_M
      have r_M_39 : R M_39 := by rw [e_M_39]; exact hR.1 _ 47 _ _ (by decide) (by decide) (by decide) r_M
      exact K _ H S_M_39 r_M_39
  · replace H := H.2 c1
    exact K _ H S_M r_M
set_option maxRecDepth 100000 in
set_option maxHeartbeats 4000000 in
theorem mQ_setPath_52 {n : Nat} {R : z_Mem → Prop} (hR : y_mQ n R) {Q Post : z_Mem → Prop} {x1 : Int32} {x2 : Int32} {x3 : Int32} {x4 : Int32} {x5 : Int32} {t1 : Int32} {t2 : Int32} {o_t0 : Option Nat} {M : z_Mem} (ho_t0 : o_t0 = some (n + 40)) (S_M : y_S n M) (r_M : R M) (H : P_X12_setPath_52 (n + 40) Q x1 x2 x3 x4 x5 o_t0 t1 t2 M) (K : ∀ M1, Q M1 → y_S n M1 → R M1 → Post M1) : P_X12_setPath_52 (n + 40) Post x1 x2 x3 x4 x5 o_t0 t1 t2 M := by
  subst ho_t0
  unfold P_X12_setPath_52 at H ⊢
  replace H := z_nne rfl H
  refine z_nn_of rfl ?_
  refine mQ_goes hR S_M r_M H (fun x_1 M_1 H S_M_1 r_M_1 => ?_)
  refine And.intro (fun c1 => ?_) (fun c1 => ?_)
  · replace H := H.1 c1
    exact K _ H S_M_1 r_M_1
  · replace H := H.2 c1
    replace H := z_nne (s_1537_40 S_M_1) H
    refine z_nn_of (s_1537_40 S_M_1) ?_
    refine And.intro H.1 ?_
    replace H := H.2
    intro M_7 e_M_7
    replace H := H M_7 e_M_7
    have S_M_7 : y_S n M_7 := by rw [e_M_7]; exact S_sai S_M_1
    have r_M_7 : R M_7 := by rw [e_M_7]; exact hR.1 _ 41 _ _ (by decide) (by decide) (by decide) r_M_1
    replace H := z_nne (s_1538_40 S_M_7) H
    refine z_nn_of (s_1538_40 S_M_7) ?_
    refine And.intro H.1 ?_
    replace H := H.2
    intro M_11 e_M_11
    replace H := H M_11 e_M_11
    have S_M_11 : y_S n M_11 := by rw [e_M_11]; exact S_sai S_M_7
    have r_M_11 : R M_11 := by rw [e_M_11]; exact hR.1 _ 42 _ _ (by decide) (by decide) (by decide) r_M_7
    replace H := z_nne (s_1539_40 S_M_11) H
    refine z_nn_of (s_1539_40 S_M_11) ?_
    refine And.intro H.1 ?_
    replace H := H.2
    intro M_15 e_M_15
    replace H := H M_15 e_M_15
    have S_M_15 : y_S n M_15 := by rw [e_M_15]; exact S_sai S_M_11
    have r_M_15 : R M_15 := by rw [e_M_15]; exact hR.1 _ 43 _ _ (by decide) (by decide) (by decide) r_M_11
    replace H := z_nne (s_1540_40 S_M_15) H
    refine z_nn_of (s_1540_40 S_M_15) ?_
    refine And.intro H.1 ?_
    replace H := H.2
    intro M_19 e_M_19
    replace H := H M_19 e_M_19
    have S_M_19 : y_S n M_19 := by rw [e_M_19]; exact S_sai S_M_15
    have r_M_19 : R M_19 := by rw [e_M_19]; exact hR.1 _ 44 _ _ (by decide) (by decide) (by decide) r_M_15
    exact K _ H S_M_19 r_M_19
set_option maxRecDepth 100000 in
set_option maxHeartbeats 4000000 in
theorem mQ_setPath_51 {n : Nat} {R : z_Mem → Prop} (hR : y_mQ n R) {Q Post : z_Mem → Prop} {x1 : Int32} {x2 : Int32} {x3 : Int32} {x4 : Int32} {x5 : Int32} {t1 : Int32} {o_t0 : Option Nat} {M : z_Mem} (ho_t0 : o_t0 = some (n + 40)) (S_M : y_S n M) (r_M : R M) (H : P_X12_setPath_51 (n + 40) Q x1 x2 x3 x4 x5 o_t0 t1 M) (K : ∀ M1, Q M1 → y_S n M1 → R M1 → Post M1) : P_X12_setPath_51 (n + 40) Post x1 x2 x3 x4 x5 o_t0 t1 M := by
  subst ho_t0
  unfold P_X12_setPath_51 at H ⊢
  exact mQ_setPath_52 hR rfl S_M r_M H K
set_option maxRecDepth 100000 in
set_option maxHeartbeats 4000000 in
theorem mQ_setPath {n : Nat} {R : z_Mem → Prop} (hR : y_mQ n R) {Q Post : z_Mem → Prop} {p1 : Int32} {p2 : Int32} {p3 : Int32} {p4 : Int32} {p5 : Int32} {M : z_Mem} (S_M : y_S n M) (r_M : R M) (H : P_X12_setPath (n + 40) p1 p2 p3 p4 p5 M Q) (K : ∀ M1, Q M1 → y_S n M1 → R M1 → Post M1) : P_X12_setPath (n + 40) p1 p2 p3 p4 p5 M Post := by
  unfold P_X12_setPath at H ⊢
  refine mQ_isPath hR S_M r_M H (fun x_20 M_20 H S_M_20 r_M_20 => ?_)
  refine mQ_in hR S_M_20 r_M_20 H (fun x_21 M_21 H S_M_21 r_M_21 => ?_)
  refine And.intro (fun c1 => ?_) (fun c1 => ?_)
  · replace H := H.1 c1
    exact mQ_setPath_51 hR rfl S_M_21 r_M_21 H K
  · replace H := H.2 c1
    refine mQ_in hR S_M_21 r_M_21 H (fun x_23 M_23 H S_M_23 r_M_23 => ?_)
    refine And.intro (fun c2 => ?_) (fun c2 => ?_)
    · replace H := H.1 c2
      exact mQ_setPath_51 hR rfl S_M_23 r_M_23 H K
    · replace H := H.2 c2
      refine mQ_in hR S_M_23 r_M_23 H (fun x_25 M_25 H S_M_25 r_M_25 => ?_)
      refine And.intro (fun c3 => ?_) (fun c3 => ?_)
      · replace H := H.1 c3
        exact mQ_setPath_51 hR rfl S_M_25 r_M_25 H K
      · replace H := H.2 c3
        refine mQ_in hR S_M_25 r_M_25 H (fun x_27 M_27 H S_M_27 r_M_27 => ?_)
        refine And.intro (fun c4 => ?_) (fun c4 => ?_)
        · replace H := H.1 c4
          exact mQ_setPath_51 hR rfl S_M_27 r_M_27 H K
        · replace H := H.2 c4
          exact mQ_setPath_52 hR rfl S_M_27 r_M_27 H K
set_option maxRecDepth 100000 in
set_option maxHeartbeats 4000000 in
theorem mQ_setUp_29 {n : Nat} {R : z_Mem → Prop} (hR : y_mQ n R) {Q Post : Int32 → z_Mem → Prop} {x1 : Int32} {x2 : Int32} {t0 : Int32} {M : z_Mem} (S_M : y_S n M) (r_M : R M) (H : P_X12_setUp_29 (n + 40) Q x1 x2 t0 M) (K : ∀ x M1, Q x M1 → y_S n M1 → R M1 → Post x M1) : P_X12_setUp_29 (n + 40) Post x1 x2 t0 M := by
  unfold P_X12_setUp_29 at H ⊢
  refine And.intro (fun c1 => ?_) (fun c1 => ?_)
  · replace H := H.1 c1
    replace H := z_nne (s_1541_40 S_M) H
    refine z_nn_of (s_1541_40 S_M) ?_
    refine And.intro H.1 ?_
    replace H := H.2
    intro M_8 e_M_8
    replace H := H M_8 e_M_8
    have S_M_8 : y_S n M_8 := by rw [e_M_8]; exact S_sai S_M
    have r_M_8 : R M_8 := by rw [e_M_8]; exact hR.1 _ 45 _ _ (by decide) (by decide) (by decide) r_M
    exact K _ _ H S_M_8 r_M_8
  · replace H := H.2 c1
    replace H := z_nne (s_1541_40 S_M) H
    refine z_nn_of (s_1541_40 S_M) ?_
    refine And.intro H.1 ?_
    replace H := H.2
    intro M_5 e_M_5
    replace H := H M_5 e_M_5
    have S_M_5 : y_S n M_5 := by rw [e_M_5]; exact S_sai S_M
    have r_M_5 : R M_5 := by rw [e_M_5]; exact hR.1 _ 45 _ _ (by decide) (by decide) (by decide) r_M
    exact K _ _ H S_M_5 r_M_5
set_option maxRecDepth 100000 in
set_option maxHeartbeats 4000000 in
theorem mQ_setUp {n : Nat} {R : z_Mem → Prop} (hR : y_mQ n R) {Q Post : Int32 → z_Mem → Prop} {p1 : Int32} {p2 : Int32} {M : z_Mem} (S_M : y_S n M) (r_M : R M) (H : P_X12_setUp (n + 40) p1 p2 M Q) (K : ∀ x M1, Q x M1 → y_S n M1 → R M1 → Post x M1) : P_X12_setUp (n + 40) p1 p2 M Post := by
  unfold P_X12_setUp at H ⊢
  refine mQ_isPath hR S_M r_M H (fun x_9 M_9 H S_M_9 r_M_9 => ?_)
  refine mQ_goes hR S_M_9 r_M_9 H (fun x_10 M_10 H S_M_10 r_M_10 => ?_)
  refine And.intro (fun c1 => ?_) (fun c1 => ?_)
  · replace H := H.1 c1
    exact K _ _ H S_M_10 r_M_10
  · replace H := H.2 c1
    replace H := z_nne (s_1541_40 S_M_10) H
    refine z_nn_of (s_1541_40 S_M_10) ?_
    refine And.intro H.1 ?_
    replace H := H.2
    refine And.intro (fun c2 => ?_) (fun c2 => ?_)
    · replace H := H.1 c2
      exact mQ_setUp_29 hR S_M_10 r_M_10 H K
    · replace H := H.2 c2
      exact mQ_setUp_29 hR S_M_10 r_M_10 H K
set_option maxRecDepth 100000 in
set_option maxHeartbeats 4000000 in
theorem mQ_lose {n : Nat} {R : z_Mem → Prop} (hR : y_mQ n R) {Q Post : z_Mem → Prop} {p1 : Int32} {p2 : Int32} {p3 : Int32} {M : z_Mem} (S_M : y_S n M) (r_M : R M) (H : P_X12_lose (n + 40) p1 p2 p3 M Q) (K : ∀ M1, Q M1 → y_S n M1 → R M1 → Post M1) : P_X12_lose (n + 40) p1 p2 p3 M Post := by
  unfold P_X12_lose at H ⊢
  refine mQ_isPath hR S_M r_M H (fun x_1 M_1 H S_M_1 r_M_1 => ?_)
  refine mQ_in hR S_M_1 r_M_1 H (fun x_2 M_2 H S_M_2 r_M_2 => ?_)
  refine mQ_goes hR S_M_2 r_M_2 H (fun x_3 M_3 H S_M_3 r_M_3 => ?_)
  refine And.intro (fun c1 => ?_) (fun c1 => ?_)
  · replace H := H.1 c1
    exact K _ H S_M_3 r_M_3
  · replace H := H.2 c1
    refine And.intro (fun c2 => ?_) (fun c2 => ?_)
    · replace H := H.1 c2
      replace H := z_nne (s_1543_40 S_M_3) H
      refine z_nn_of (s_1543_40 S_M_3) ?_
      refine And.intro H.1 ?_
      replace H := H.2
      intro M_9 e_M_9
      replace H := H M_9 e_M_9
      have S_M_9 : y_S n M_9 := by rw [e_M_9]; exact S_sai S_M_3
      have r_M_9 : R M_9 := by rw [e_M_9]; exact hR.1 _ 47 _ _ (by decide) (by decide) (by decide) r_M_3
      exact K _ H S_M_9 r_M_9
    · replace H := H.2 c2
      replace H := z_nne (s_1542_40 S_M_3) H
      refine z_nn_of (s_1542_40 S_M_3) ?_
      refine And.intro H.1 ?_
      replace H := H.2
      intro M_13 e_M_13
      replace H := H M_13 e_M_13
      have S_M_13 : y_S n M_13 := by rw [e_M_13]; exact S_sai S_M_3
      have r_M_13 : R M_13 := by rw [e_M_13]; exact hR.1 _ 46 _ _ (by decide) (by decide) (by decide) r_M_3
      exact K _ H S_M_13 r_M_13
set_option maxRecDepth 100000 in
set_option maxHeartbeats 4000000 in
theorem mQ_late_30 {n : Nat} {R : z_Mem → Prop} (hR : y_mQ n R) {Q Post : z_Mem → Prop} {x1 : Int32} {x2 : Int32} {x3 : Int32} {t1 : Int32} {t2 : Int32} {o_t0 : Option Nat} {M : z_Mem} (ho_t0 : o_t0 = some (n + 40)) (S_M : y_S n M) (r_M : R M) (H : P_X12_late_30 (n + 40) Q x1 x2 x3 o_t0 t1 t2 M) (K : ∀ M1, Q M1 → y_S n M1 → R M1 → Post M1) : P_X12_late_30 (n + 40) Post x1 x2 x3 o_t0 t1 t2 M := by
  subst ho_t0
  unfold P_X12_late_30 at H ⊢
  replace H := z_nne rfl H
  refine z_nn_of rfl ?_
  refine mQ_goes hR S_M r_M H (fun x_1 M_1 H S_M_1 r_M_1 => ?_)
  refine And.intro (fun c1 => ?_) (fun c1 => ?_)
  · replace H := H.1 c1
    exact K _ H S_M_1 r_M_1
  · replace H := H.2 c1
    replace H := z_nne (s_1544_40 S_M_1) H
    refine z_nn_of (s_1544_40 S_M_1) ?_
    refine And.intro H.1 ?_
    replace H := H.2
    intro M_7 e_M_7
    replace H := H M_7 e_M_7
    have S_M_7 : y_S n M_7 := by rw [e_M_7]; exact S_sai S_M_1
    have r_M_7 : R M_7 := by rw [e_M_7]; exact hR.1 _ 48 _ _ (by decide) (by decide) (by decide) r_M_1
    replace H := z_nne (s_1545_40 S_M_7) H
    refine z_nn_of (s_1545_40 S_M_7) ?_
    refine And.intro H.1 ?_
    replace H := H.2
    intro M_11 e_M_11
    replace H := H M_11 e_M_11
    have S_M_11 : y_S n M_11 := by rw [e_M_11]; exact S_sai S_M_7
    have r_M_11 : R M_11 := by rw [e_M_11]; exact hR.1 _ 49 _ _ (by decide) (by decide) (by decide) r_M_7
    exact K _ H S_M_11 r_M_11
set_option maxRecDepth 100000 in
set_option maxHeartbeats 4000000 in
theorem mQ_late_29 {n : Nat} {R : z_Mem → Prop} (hR : y_mQ n R) {Q Post : z_Mem → Prop} {x1 : Int32} {x2 : Int32} {x3 : Int32} {t1 : Int32} {o_t0 : Option Nat} {M : z_Mem} (ho_t0 : o_t0 = some (n + 40)) (S_M : y_S n M) (r_M : R M) (H : P_X12_late_29 (n + 40) Q x1 x2 x3 o_t0 t1 M) (K : ∀ M1, Q M1 → y_S n M1 → R M1 → Post M1) : P_X12_late_29 (n + 40) Post x1 x2 x3 o_t0 t1 M := by
  subst ho_t0
  unfold P_X12_late_29 at H ⊢
  exact mQ_late_30 hR rfl S_M r_M H K
set_option maxRecDepth 100000 in
set_option maxHeartbeats 4000000 in
theorem mQ_late {n : Nat} {R : z_Mem → Prop} (hR : y_mQ n R) {Q Post : z_Mem → Prop} {p1 : Int32} {p2 : Int32} {p3 : Int32} {M : z_Mem} (S_M : y_S n M) (r_M : R M) (H : P_X12_late (n + 40) p1 p2 p3 M Q) (K : ∀ M1, Q M1 → y_S n M1 → R M1 → Post M1) : P_X12_late (n + 40) p1 p2 p3 M Post := by
  unfold P_X12_late at H ⊢
  refine mQ_isPath hR S_M r_M H (fun x_12 M_12 H S_M_12 r_M_12 => ?_)
  refine mQ_in hR S_M_12 r_M_12 H (fun x_13 M_13 H S_M_13 r_M_13 => ?_)
  refine And.intro (fun c1 => ?_) (fun c1 => ?_)
  · replace H := H.1 c1
    exact mQ_late_29 hR rfl S_M_13 r_M_13 H K
  · replace H := H.2 c1
    refine mQ_in hR S_M_13 r_M_13 H (fun x_15 M_15 H S_M_15 r_M_15 => ?_)
    refine And.intro (fun c2 => ?_) (fun c2 => ?_)
    · replace H := H.1 c2
      exact mQ_late_29 hR rfl S_M_15 r_M_15 H K
    · replace H := H.2 c2
      exact mQ_late_30 hR rfl S_M_15 r_M_15 H K
set_option maxRecDepth 100000 in
set_option maxHeartbeats 4000000 in
theorem mQ_foreign_23 {n : Nat} {R : z_Mem → Prop} (hR : y_mQ n R) {Q Post : Int32 → z_Mem → Prop} : ∀ (m : Nat) {x1 : Int32} {x2 : Int32} {x3 : Int32} {M : z_Mem} (S_M : y_S n M) (r_M : R M) (H : P_X12_foreign_23 (n + 40) Q m x1 x2 x3 M) (K : ∀ x M1, Q x M1 → y_S n M1 → R M1 → Post x M1), P_X12_foreign_23 (n + 40) Post m x1 x2 x3 M := by
  intro m
  induction m with
  | zero => intros; rename_i H _; exact False.elim H
  | succ m ih =>
    intro x1 x2 x3 M S_M r_M H K
    unfold P_X12_foreign_23 at H ⊢
    refine And.intro (fun c1 => ?_) (fun c1 => ?_)
    · replace H := H.1 c1
      exact K _ _ H S_M r_M
    · replace H := H.2 c1
      replace H := z_nne (s_1547_40 S_M) H
      refine z_nn_of (s_1547_40 S_M) ?_
      refine And.intro H.1 ?_
      replace H := H.2
      replace H := z_nne (s_1539_40 S_M) H
      refine z_nn_of (s_1539_40 S_M) ?_
      refine And.intro H.1 ?_
      replace H := H.2
      refine And.intro (fun c2 => ?_) (fun c2 => ?_)
      · replace H := H.1 c2
        exact K _ _ H S_M r_M
      · replace H := H.2 c2
        replace H := z_nne (s_1547_40 S_M) H
        refine z_nn_of (s_1547_40 S_M) ?_
        refine And.intro H.1 ?_
        replace H := H.2
        replace H := z_nne (s_1546_40 S_M) H
        refine z_nn_of (s_1546_40 S_M) ?_
        refine And.intro H.1 ?_
        replace H := H.2
        intro M_15 e_M_15
        replace H := H M_15 e_M_15
        have S_M_15 : y_S n M_15 := by rw [e_M_15]; exact S_sai S_M
        have r_M_15 : R M_15 := by rw [e_M_15]; exact hR.1 _ 50 _ _ (by decide) (by decide) (by decide) r_M
        replace H := z_nne (s_1547_40 S_M_15) H
        refine z_nn_of (s_1547_40 S_M_15) ?_
        refine And.intro H.1 ?_
        replace H := H.2
        refine And.intro H.1 ?_
        replace H := H.2
        intro M_20 e_M_20
        replace H := H M_20 e_M_20
        have S_M_20 : y_S n M_20 := by rw [e_M_20]; exact S_sai S_M_15
        have r_M_20 : R M_20 := by rw [e_M_20]; exact hR.1 _ 51 _ _ (by decide) (by decide) (by decide) r_M_15
        intro x_21 e_x_21
        replace H := H x_21 e_x_21
        exact ih S_M_20 r_M_20 H K
set_option maxRecDepth 100000 in
set_option maxHeartbeats 4000000 in
theorem mQ_foreign {n : Nat} {R : z_Mem → Prop} (hR : y_mQ n R) {Q Post : Int32 → z_Mem → Prop} {p1 : Int32} {p2 : Int32} {M : z_Mem} (S_M : y_S n M) (r_M : R M) (H : P_X12_foreign (n + 40) p1 p2 M Q) (K : ∀ x M1, Q x M1 → y_S n M1 → R M1 → Post x M1) : P_X12_foreign (n + 40) p1 p2 M Post := by
  unfold P_X12_foreign at H ⊢
  refine mQ_isPath hR S_M r_M H (fun x_22 M_22 H S_M_22 r_M_22 => ?_)
  refine mQ_in hR S_M_22 r_M_22 H (fun x_23 M_23 H S_M_23 r_M_23 => ?_)
  refine mQ_goes hR S_M_23 r_M_23 H (fun x_24 M_24 H S_M_24 r_M_24 => ?_)
  refine And.intro (fun c1 => ?_) (fun c1 => ?_)
  · replace H := H.1 c1
    exact K _ _ H S_M_24 r_M_24
  · replace H := H.2 c1
    obtain ⟨m, H⟩ := H
    refine ⟨m, ?_⟩
    exact mQ_foreign_23 hR m S_M_24 r_M_24 H K
set_option maxRecDepth 100000 in
set_option maxHeartbeats 4000000 in
theorem mQ_leaves_149 {n : Nat} {R : z_Mem → Prop} (hR : y_mQ n R) {Q Post : z_Mem → Prop} {QJ33 PJ33 : Int32 → Int32 → Int32 → z_Mem → Prop} {x1 : Int32} {x2 : Int32} {x3 : Int32} {M : z_Mem} (S_M : y_S n M) (r_M : R M) (H : P_X12_leaves_149 (n + 40) Q QJ33 x1 x2 x3 M) (K : ∀ M1, Q M1 → y_S n M1 → R M1 → Post M1) (KJ33 : ∀ v0 v1 v2 M1, QJ33 v0 v1 v2 M1 → y_S n M1 → R M1 → PJ33 v0 v1 v2 M1) : P_X12_leaves_149 (n + 40) Post PJ33 x1 x2 x3 M := by
  unfold P_X12_leaves_149 at H ⊢
  intro x_1 e_x_1
  replace H := H x_1 e_x_1
  exact KJ33 _ _ _ _ H S_M r_M
set_option maxRecDepth 100000 in
set_option maxHeartbeats 4000000 in
theorem mQ_leaves_137 {n : Nat} {R : z_Mem → Prop} (hR : y_mQ n R) {Q Post : z_Mem → Prop} {QJ33 PJ33 : Int32 → Int32 → Int32 → z_Mem → Prop} {x1 : Int32} {x2 : Int32} {x3 : Int32} {t1 : Int32} {t2 : Int32} {t3 : Int32} {t0 : Nat} {o_t0 : Option Nat} {M : z_Mem} (h0_t0 : 41 ≤ t0) (h1_t0 : t0 < 107) (h2_t0 : t0 ≠ 92) (ho_t0 : o_t0 = some (n + t0)) (S_M : y_S n M) (r_M : R M) (H : P_X12_leaves_137 (n + 40) Q QJ33 x1 x2 x3 o_t0 t1 t2 t3 M) (K : ∀ M1, Q M1 → y_S n M1 → R M1 → Post M1) (KJ33 : ∀ v0 v1 v2 M1, QJ33 v0 v1 v2 M1 → y_S n M1 → R M1 → PJ33 v0 v1 v2 M1) : P_X12_leaves_137 (n + 40) Post PJ33 x1 x2 x3 o_t0 t1 t2 t3 M := by
  subst ho_t0
  unfold P_X12_leaves_137 at H ⊢
  replace H := z_nne rfl H
  refine z_nn_of rfl ?_
  refine And.intro H.1 ?_
  replace H := H.2
  intro M_4 e_M_4
  replace H := H M_4 e_M_4
  have S_M_4 : y_S n M_4 := by rw [e_M_4]; exact S_sai S_M
  have r_M_4 : R M_4 := by rw [e_M_4]; exact hR.1 _ t0 _ _ h0_t0 h1_t0 h2_t0 r_M
  intro M_6 e_M_6
  replace H := H M_6 e_M_6
  have S_M_6 : y_S n M_6 := by rw [e_M_6]; exact S_sfi S_M_4
  have r_M_6 : R M_6 := by rw [e_M_6]; exact hR.2.2 _ 1554 _ (by decide) r_M_4
  exact mQ_leaves_149 hR S_M_6 r_M_6 H K KJ33
set_option maxRecDepth 100000 in
set_option maxHeartbeats 4000000 in
theorem mQ_leaves_90 {n : Nat} {R : z_Mem → Prop} (hR : y_mQ n R) {Q Post : z_Mem → Prop} {QJ33 PJ33 : Int32 → Int32 → Int32 → z_Mem → Prop} {x1 : Int32} {x2 : Int32} {x3 : Int32} {x4 : Int32} {x5 : Int32} {t1 : Int32} {t2 : Int32} {t3 : Int32} {t0 : Nat} {o_t0 : Option Nat} {M : z_Mem} (h0_t0 : 41 ≤ t0) (h1_t0 : t0 < 107) (h2_t0 : t0 ≠ 92) (ho_t0 : o_t0 = some (n + t0)) (S_M : y_S n M) (r_M : R M) (H : P_X12_leaves_90 (n + 40) Q QJ33 x1 x2 x3 x4 x5 o_t0 t1 t2 t3 M) (K : ∀ M1, Q M1 → y_S n M1 → R M1 → Post M1) (KJ33 : ∀ v0 v1 v2 M1, QJ33 v0 v1 v2 M1 → y_S n M1 → R M1 → PJ33 v0 v1 v2 M1) : P_X12_leaves_90 (n + 40) Post PJ33 x1 x2 x3 x4 x5 o_t0 t1 t2 t3 M := by
  subst ho_t0
  unfold P_X12_leaves_90 at H ⊢
  replace H := z_nne rfl H
  refine z_nn_of rfl ?_
  refine And.intro H.1 ?_
  replace H := H.2
  intro M_9 e_M_9
  replace H := H M_9 e_M_9
  have S_M_9 : y_S n M_9 := by rw [e_M_9]; exact S_sai S_M
  have r_M_9 : R M_9 := by rw [e_M_9]; exact hR.1 _ t0 _ _ h0_t0 h1_t0 h2_t0 r_M
  replace H := z_nne (s_1552_40 S_M_9) H
  refine z_nn_of (s_1552_40 S_M_9) ?_
  refine And.intro H.1 ?_
  replace H := H.2
  intro M_14 e_M_14
  replace H := H M_14 e_M_14
  have S_M_14 : y_S n M_14 := by rw [e_M_14]; exact S_sai S_M_9
  have r_M_14 : R M_14 := by rw [e_M_14]; exact hR.1 _ 55 _ _ (by decide) (by decide) (by decide) r_M_9
  replace H := z_nne (s_1537_40 S_M_14) H
  refine z_nn_of (s_1537_40 S_M_14) ?_
  refine And.intro H.1 ?_
  replace H := H.2
  refine And.intro (fun c1 => ?_) (fun c1 => ?_)
  · replace H := H.1 c1
    exact mQ_leaves_137 hR (by decide) (by decide) (by decide) (s_1553_40 S_M_14) S_M_14 r_M_14 H K KJ33
  · replace H := H.2 c1
    replace H := z_nne (s_1545_40 S_M_14) H
    refine z_nn_of (s_1545_40 S_M_14) ?_
    refine And.intro H.1 ?_
    replace H := H.2
    exact mQ_leaves_137 hR (by decide) (by decide) (by decide) (s_1553_40 S_M_14) S_M_14 r_M_14 H K KJ33
set_option maxRecDepth 100000 in
set_option maxHeartbeats 4000000 in
theorem mQ_leaves_71 {n : Nat} {R : z_Mem → Prop} (hR : y_mQ n R) {Q Post : z_Mem → Prop} {QJ33 PJ33 : Int32 → Int32 → Int32 → z_Mem → Prop} {x1 : Int32} {x2 : Int32} {x3 : Int32} {x4 : Int32} {t0 : Int32} {M : z_Mem} (S_M : y_S n M) (r_M : R M) (H : P_X12_leaves_71 (n + 40) Q QJ33 x1 x2 x3 x4 t0 M) (K : ∀ M1, Q M1 → y_S n M1 → R M1 → Post M1) (KJ33 : ∀ v0 v1 v2 M1, QJ33 v0 v1 v2 M1 → y_S n M1 → R M1 → PJ33 v0 v1 v2 M1) : P_X12_leaves_71 (n + 40) Post PJ33 x1 x2 x3 x4 t0 M := by
  unfold P_X12_leaves_71 at H ⊢
  replace H := z_nne (s_1544_40 S_M) H
  refine z_nn_of (s_1544_40 S_M) ?_
  refine And.intro H.1 ?_
  replace H := H.2
  refine And.intro (fun c1 => ?_) (fun c1 => ?_)
  · replace H := H.1 c1
    exact mQ_leaves_90 hR (by decide) (by decide) (by decide) (s_1544_40 S_M) S_M r_M H K KJ33
  · replace H := H.2 c1
    exact mQ_leaves_90 hR (by decide) (by decide) (by decide) (s_1544_40 S_M) S_M r_M H K KJ33
set_option maxRecDepth 100000 in
set_option maxHeartbeats 4000000 in
theorem mQ_leaves_157 {n : Nat} {R : z_Mem → Prop} (hR : y_mQ n R) {Q Post : z_Mem → Prop} : ∀ (m : Nat) {x1 : Int32} {x2 : Int32} {x3 : Int32} {M : z_Mem} (S_M : y_S n M) (r_M : R M) (H : P_X12_leaves_157 (n + 40) Q m x1 x2 x3 M) (K : ∀ M1, Q M1 → y_S n M1 → R M1 → Post M1), P_X12_leaves_157 (n + 40) Post m x1 x2 x3 M := by
  intro m
  induction m with
  | zero => intros; rename_i H _; exact False.elim H
  | succ m ih =>
    intro x1 x2 x3 M S_M r_M H K
    unfold P_X12_leaves_157 at H ⊢
    replace H := z_nne (s_1547_40 S_M) H
    refine z_nn_of (s_1547_40 S_M) ?_
    refine And.intro H.1 ?_
    replace H := H.2
    refine And.intro (fun c1 => ?_) (fun c1 => ?_)
    · replace H := H.1 c1
      replace H := z_nne (s_1547_40 S_M) H
      refine z_nn_of (s_1547_40 S_M) ?_
      refine And.intro H.1 ?_
      replace H := H.2
      refine And.intro H.1 ?_
      replace H := H.2
      intro M_37 e_M_37
      replace H := H M_37 e_M_37
      have S_M_37 : y_S n M_37 := by rw [e_M_37]; exact S_sai S_M
      have r_M_37 : R M_37 := by rw [e_M_37]; exact hR.1 _ 51 _ _ (by decide) (by decide) (by decide) r_M
      exact K _ H S_M_37 r_M_37
    · replace H := H.2 c1
      replace H := z_nne (s_1546_40 S_M) H
      refine z_nn_of (s_1546_40 S_M) ?_
      refine And.intro H.1 ?_
      replace H := H.2
      replace H := z_nne (s_1546_40 S_M) H
      refine z_nn_of (s_1546_40 S_M) ?_
      refine And.intro H.1 ?_
      replace H := H.2
      intro M_44 e_M_44
      replace H := H M_44 e_M_44
      have S_M_44 : y_S n M_44 := by rw [e_M_44]; exact S_sai S_M
      have r_M_44 : R M_44 := by rw [e_M_44]; exact hR.1 _ 50 _ _ (by decide) (by decide) (by decide) r_M
      intro x_45 e_x_45
      replace H := H x_45 e_x_45
      exact ih S_M_44 r_M_44 H K
set_option maxRecDepth 100000 in
set_option maxHeartbeats 4000000 in
theorem mQ_leaves_33 {n : Nat} {R : z_Mem → Prop} (hR : y_mQ n R) {Q Post : z_Mem → Prop} : ∀ (m : Nat) {x1 : Int32} {x2 : Int32} {x3 : Int32} {M : z_Mem} (S_M : y_S n M) (r_M : R M) (H : P_X12_leaves_33 (n + 40) Q m x1 x2 x3 M) (K : ∀ M1, Q M1 → y_S n M1 → R M1 → Post M1), P_X12_leaves_33 (n + 40) Post m x1 x2 x3 M := by
  intro m
  induction m with
  | zero => intros; rename_i H _; exact False.elim H
  | succ m ih =>
    intro x1 x2 x3 M S_M r_M H K
    unfold P_X12_leaves_33 at H ⊢
    refine And.intro (fun c1 => ?_) (fun c1 => ?_)
    · replace H := H.1 c1
      obtain ⟨m, H⟩ := H
      refine ⟨m, ?_⟩
      exact mQ_leaves_157 hR m S_M r_M H K
    · replace H := H.2 c1
      replace H := z_nne (s_1546_40 S_M) H
      refine z_nn_of (s_1546_40 S_M) ?_
      refine And.intro H.1 ?_
      replace H := H.2
      intro x_51 e_x_51
      replace H := H x_51 e_x_51
      refine And.intro (fun c2 => ?_) (fun c2 => ?_)
      · replace H := H.1 c2
        exact mQ_leaves_149 hR S_M r_M H K (fun v0 v1 v2 M1 q S u => ih S u q K)
      · replace H := H.2 c2
        replace H := z_nne (s_1544_40 S_M) H
        refine z_nn_of (s_1544_40 S_M) ?_
        refine And.intro H.1 ?_
        replace H := H.2
        refine And.intro (fun c3 => ?_) (fun c3 => ?_)
        · replace H := H.1 c3
          exact mQ_leaves_71 hR S_M r_M H K (fun v0 v1 v2 M1 q S u => ih S u q K)
        · replace H := H.2 c3
          exact mQ_leaves_71 hR S_M r_M H K (fun v0 v1 v2 M1 q S u => ih S u q K)
set_option maxRecDepth 100000 in
set_option maxHeartbeats 4000000 in
theorem mQ_leaves_30 {n : Nat} {R : z_Mem → Prop} (hR : y_mQ n R) {Q Post : z_Mem → Prop} {x1 : Int32} {t0 : Int32} {M : z_Mem} (S_M : y_S n M) (r_M : R M) (H : P_X12_leaves_30 (n + 40) Q x1 t0 M) (K : ∀ M1, Q M1 → y_S n M1 → R M1 → Post M1) : P_X12_leaves_30 (n + 40) Post x1 t0 M := by
  unfold P_X12_leaves_30 at H ⊢
  obtain ⟨m, H⟩ := H
  refine ⟨m, ?_⟩
  exact mQ_leaves_33 hR m S_M r_M H K
set_option maxRecDepth 100000 in
set_option maxHeartbeats 4000000 in
theorem mQ_leaves {n : Nat} {R : z_Mem → Prop} (hR : y_mQ n R) {Q Post : z_Mem → Prop} {p1 : Int32} {M : z_Mem} (S_M : y_S n M) (r_M : R M) (H : P_X12_leaves (n + 40) p1 M Q) (K : ∀ M1, Q M1 → y_S n M1 → R M1 → Post M1) : P_X12_leaves (n + 40) p1 M Post := by
  unfold P_X12_leaves at H ⊢
  replace H := z_nne (s_1547_40 S_M) H
  refine z_nn_of (s_1547_40 S_M) ?_
  refine And.intro H.1 ?_
  replace H := H.2
  replace H := z_nne (s_1538_40 S_M) H
  refine z_nn_of (s_1538_40 S_M) ?_
  refine And.intro H.1 ?_
  replace H := H.2
  refine And.intro (fun c1 => ?_) (fun c1 => ?_)
  · replace H := H.1 c1
    replace H := z_nne (s_1538_40 S_M) H
    refine z_nn_of (s_1538_40 S_M) ?_
    refine And.intro H.1 ?_
    replace H := H.2
    exact mQ_leaves_30 hR S_M r_M H K
  · replace H := H.2 c1
    replace H := z_nne (s_1547_40 S_M) H
    refine z_nn_of (s_1547_40 S_M) ?_
    refine And.intro H.1 ?_
    replace H := H.2
    exact mQ_leaves_30 hR S_M r_M H K
set_option maxRecDepth 100000 in
set_option maxHeartbeats 4000000 in
theorem mQ_gotOf_2 {n : Nat} {R : z_Mem → Prop} (hR : y_mQ n R) {Q Post : Int32 → z_Mem → Prop} : ∀ (m : Nat) {x1 : Int32} {x2 : Int32} {M : z_Mem} (S_M : y_S n M) (r_M : R M) (H : P_X12_gotOf_2 (n + 40) Q m x1 x2 M) (K : ∀ x M1, Q x M1 → y_S n M1 → R M1 → Post x M1), P_X12_gotOf_2 (n + 40) Post m x1 x2 M := by
  intro m
  induction m with
  | zero => intros; rename_i H _; exact False.elim H
  | succ m ih =>
    intro x1 x2 M S_M r_M H K
    unfold P_X12_gotOf_2 at H ⊢
    refine And.intro (fun c1 => ?_) (fun c1 => ?_)
    · replace H := H.1 c1
      exact K _ _ H S_M r_M
    · replace H := H.2 c1
      replace H := z_nne (s_1570_40 S_M) H
      refine z_nn_of (s_1570_40 S_M) ?_
      refine And.intro H.1 ?_
      replace H := H.2
      refine And.intro (fun c2 => ?_) (fun c2 => ?_)
      · replace H := H.1 c2
        exact K _ _ H S_M r_M
      · replace H := H.2 c2
        intro x_6 e_x_6
        replace H := H x_6 e_x_6
        exact ih S_M r_M H K
set_option maxRecDepth 100000 in
set_option maxHeartbeats 4000000 in
theorem mQ_gotOf {n : Nat} {R : z_Mem → Prop} (hR : y_mQ n R) {Q Post : Int32 → z_Mem → Prop} {p1 : Int32} {M : z_Mem} (S_M : y_S n M) (r_M : R M) (H : P_X12_gotOf (n + 40) p1 M Q) (K : ∀ x M1, Q x M1 → y_S n M1 → R M1 → Post x M1) : P_X12_gotOf (n + 40) p1 M Post := by
  unfold P_X12_gotOf at H ⊢
  obtain ⟨m, H⟩ := H
  refine ⟨m, ?_⟩
  exact mQ_gotOf_2 hR m S_M r_M H K
set_option maxRecDepth 100000 in
set_option maxHeartbeats 4000000 in
theorem mQ_acknowledges_86 {n : Nat} {R : z_Mem → Prop} (hR : y_mQ n R) {Q Post : z_Mem → Prop} {QJ14 PJ14 : Int32 → Int32 → Int32 → z_Mem → Prop} {x1 : Int32} {x2 : Int32} {x3 : Int32} {M : z_Mem} (S_M : y_S n M) (r_M : R M) (H : P_X12_acknowledges_86 (n + 40) Q QJ14 x1 x2 x3 M) (K : ∀ M1, Q M1 → y_S n M1 → R M1 → Post M1) (KJ14 : ∀ v0 v1 v2 M1, QJ14 v0 v1 v2 M1 → y_S n M1 → R M1 → PJ14 v0 v1 v2 M1) : P_X12_acknowledges_86 (n + 40) Post PJ14 x1 x2 x3 M := by
  unfold P_X12_acknowledges_86 at H ⊢
  intro x_1 e_x_1
  replace H := H x_1 e_x_1
  exact KJ14 _ _ _ _ H S_M r_M
set_option maxRecDepth 100000 in
set_option maxHeartbeats 4000000 in
theorem mQ_acknowledges_56 {n : Nat} {R : z_Mem → Prop} (hR : y_mQ n R) {Q Post : z_Mem → Prop} {QJ14 PJ14 : Int32 → Int32 → Int32 → z_Mem → Prop} {x1 : Int32} {x2 : Int32} {x3 : Int32} {x4 : Int32} {M : z_Mem} (S_M : y_S n M) (r_M : R M) (H : P_X12_acknowledges_56 (n + 40) Q QJ14 x1 x2 x3 x4 M) (K : ∀ M1, Q M1 → y_S n M1 → R M1 → Post M1) (KJ14 : ∀ v0 v1 v2 M1, QJ14 v0 v1 v2 M1 → y_S n M1 → R M1 → PJ14 v0 v1 v2 M1) : P_X12_acknowledges_56 (n + 40) Post PJ14 x1 x2 x3 x4 M := by
  unfold P_X12_acknowledges_56 at H ⊢
  replace H := z_nne (s_1560_40 S_M) H
  refine z_nn_of (s_1560_40 S_M) ?_
  refine And.intro H.1 ?_
  replace H := H.2
  intro M_5 e_M_5
  replace H := H M_5 e_M_5
  have S_M_5 : y_S n M_5 := by rw [e_M_5]; exact S_sai S_M
  have r_M_5 : R M_5 := by rw [e_M_5]; exact hR.1 _ 61 _ _ (by decide) (by decide) (by decide) r_M
  replace H := z_nne (s_1560_40 S_M_5) H
  refine z_nn_of (s_1560_40 S_M_5) ?_
  refine And.intro H.1 ?_
  replace H := H.2
  intro M_9 e_M_9
  replace H := H M_9 e_M_9
  have S_M_9 : y_S n M_9 := by rw [e_M_9]; exact S_sai S_M_5
  have r_M_9 : R M_9 := by rw [e_M_9]; exact hR.1 _ 61 _ _ (by decide) (by decide) (by decide) r_M_5
  intro x_10 e_x_10
  replace H := H x_10 e_x_10
  exact mQ_acknowledges_86 hR S_M_9 r_M_9 H K KJ14
set_option maxRecDepth 100000 in
set_option maxHeartbeats 4000000 in
theorem mQ_acknowledges_35 {n : Nat} {R : z_Mem → Prop} (hR : y_mQ n R) {Q Post : z_Mem → Prop} {QJ14 PJ14 : Int32 → Int32 → Int32 → z_Mem → Prop} : ∀ (m : Nat) {x1 : Int32} {x2 : Int32} {x3 : Int32} {x4 : Int32} {M : z_Mem} (S_M : y_S n M) (r_M : R M) (H : P_X12_acknowledges_35 (n + 40) Q QJ14 m x1 x2 x3 x4 M) (K : ∀ M1, Q M1 → y_S n M1 → R M1 → Post M1) (KJ14 : ∀ v0 v1 v2 M1, QJ14 v0 v1 v2 M1 → y_S n M1 → R M1 → PJ14 v0 v1 v2 M1), P_X12_acknowledges_35 (n + 40) Post PJ14 m x1 x2 x3 x4 M := by
  intro m
  induction m with
  | zero => intros; rename_i H _ _; exact False.elim H
  | succ m ih =>
    intro x1 x2 x3 x4 M S_M r_M H K KJ14
    unfold P_X12_acknowledges_35 at H ⊢
    refine And.intro (fun c1 => ?_) (fun c1 => ?_)
    · replace H := H.1 c1
      exact mQ_acknowledges_56 hR S_M r_M H K KJ14
    · replace H := H.2 c1
      replace H := z_nne (s_1569_40 S_M) H
      refine z_nn_of (s_1569_40 S_M) ?_
      refine And.intro H.1 ?_
      replace H := H.2
      refine And.intro (fun c2 => ?_) (fun c2 => ?_)
      · replace H := H.1 c2
        exact mQ_acknowledges_56 hR S_M r_M H K KJ14
      · replace H := H.2 c2
        intro x_16 e_x_16
        replace H := H x_16 e_x_16
        exact ih S_M r_M H K KJ14
set_option maxRecDepth 100000 in
set_option maxHeartbeats 4000000 in
theorem mQ_acknowledges_119 {n : Nat} {R : z_Mem → Prop} (hR : y_mQ n R) {Q Post : z_Mem → Prop} : ∀ (m : Nat) {x1 : Int32} {x4 : Int32} {x5 : Int32} {M : z_Mem} (S_M : y_S n M) (r_M : R M) (H : P_X12_acknowledges_119 (n + 40) Q m x1 x4 x5 M) (K : ∀ M1, Q M1 → y_S n M1 → R M1 → Post M1), P_X12_acknowledges_119 (n + 40) Post m x1 x4 x5 M := by
  intro m
  induction m with
  | zero => intros; rename_i H _; exact False.elim H
  | succ m ih =>
    intro x1 x4 x5 M S_M r_M H K
    unfold P_X12_acknowledges_119 at H ⊢
    refine And.intro (fun c1 => ?_) (fun c1 => ?_)
    · replace H := H.1 c1
      replace H := z_nne (s_1560_40 S_M) H
      refine z_nn_of (s_1560_40 S_M) ?_
      refine And.intro H.1 ?_
      replace H := H.2
      intro M_21 e_M_21
      replace H := H M_21 e_M_21
      have S_M_21 : y_S n M_21 := by rw [e_M_21]; exact S_sai S_M
      have r_M_21 : R M_21 := by rw [e_M_21]; exact hR.1 _ 61 _ _ (by decide) (by decide) (by decide) r_M
      intro M_23 e_M_23
      replace H := H M_23 e_M_23
      have S_M_23 : y_S n M_23 := by rw [e_M_23]; exact S_sfi S_M_21
      have r_M_23 : R M_23 := by rw [e_M_23]; exact hR.2.2 _ 1561 _ (by decide) r_M_21
      replace H := z_nne (s_1629_40 S_M_23) H
      refine z_nn_of (s_1629_40 S_M_23) ?_
      refine And.intro H.1 ?_
      replace H := H.2
      refine And.intro H.1 ?_
      replace H := H.2
      intro M_28 e_M_28
      replace H := H M_28 e_M_28
      have S_M_28 : y_S n M_28 := by rw [e_M_28]; exact S_sai S_M_23
      have r_M_28 : R M_28 := by rw [e_M_28]; exact hR.1 _ 106 _ _ (by decide) (by decide) (by decide) r_M_23
      intro M_29 e_M_29
      replace H := H M_29 e_M_29
      have S_M_29 : y_S n M_29 := by rw [e_M_29]; exact S_sfi S_M_28
      have r_M_29 : R M_29 := by rw [e_M_29]; exact hR.2.2 _ 1573 _ (by decide) r_M_28
      intro M_30 e_M_30
      replace H := H M_30 e_M_30
      have S_M_30 : y_S n M_30 := by rw [e_M_30]; exact S_sfi S_M_29
      have r_M_30 : R M_30 := by rw [e_M_30]; exact hR.2.2 _ 1574 _ (by decide) r_M_29
      refine mQ_answers hR S_M_30 r_M_30 H (fun M_33 H S_M_33 r_M_33 => ?_)
      exact K _ H S_M_33 r_M_33
    · replace H := H.2 c1
      replace H := z_nne (s_1571_40 S_M) H
      refine z_nn_of (s_1571_40 S_M) ?_
      refine And.intro H.1 ?_
      replace H := H.2
      replace H := z_nne (s_1560_40 S_M) H
      refine z_nn_of (s_1560_40 S_M) ?_
      refine And.intro H.1 ?_
      replace H := H.2
      intro M_40 e_M_40
      replace H := H M_40 e_M_40
      have S_M_40 : y_S n M_40 := by rw [e_M_40]; exact S_sai S_M
      have r_M_40 : R M_40 := by rw [e_M_40]; exact hR.1 _ 61 _ _ (by decide) (by decide) (by decide) r_M
      replace H := z_nne (s_1571_40 S_M_40) H
      refine z_nn_of (s_1571_40 S_M_40) ?_
      refine And.intro H.1 ?_
      replace H := H.2
      intro x_44 e_x_44
      replace H := H x_44 e_x_44
      intro x_45 e_x_45
      replace H := H x_45 e_x_45
      exact ih S_M_40 r_M_40 H K
set_option maxRecDepth 100000 in
set_option maxHeartbeats 4000000 in
theorem mQ_acknowledges_92 {n : Nat} {R : z_Mem → Prop} (hR : y_mQ n R) {Q Post : z_Mem → Prop} {x1 : Int32} {x2 : Int32} {M : z_Mem} (S_M : y_S n M) (r_M : R M) (H : P_X12_acknowledges_92 (n + 40) Q x1 x2 M) (K : ∀ M1, Q M1 → y_S n M1 → R M1 → Post M1) : P_X12_acknowledges_92 (n + 40) Post x1 x2 M := by
  unfold P_X12_acknowledges_92 at H ⊢
  replace H := z_nne (s_1560_40 S_M) H
  refine z_nn_of (s_1560_40 S_M) ?_
  refine And.intro H.1 ?_
  replace H := H.2
  intro M_49 e_M_49
  replace H := H M_49 e_M_49
  have S_M_49 : y_S n M_49 := by rw [e_M_49]; exact S_sai S_M
  have r_M_49 : R M_49 := by rw [e_M_49]; exact hR.1 _ 61 _ _ (by decide) (by decide) (by decide) r_M
  replace H := z_nne (s_1560_40 S_M_49) H
  refine z_nn_of (s_1560_40 S_M_49) ?_
  refine And.intro H.1 ?_
  replace H := H.2
  intro M_54 e_M_54
  replace H := H M_54 e_M_54
  have S_M_54 : y_S n M_54 := by rw [e_M_54]; exact S_sai S_M_49
  have r_M_54 : R M_54 := by rw [e_M_54]; exact hR.1 _ 61 _ _ (by decide) (by decide) (by decide) r_M_49
  obtain ⟨m, H⟩ := H
  refine ⟨m, ?_⟩
  exact mQ_acknowledges_119 hR m S_M_54 r_M_54 H K
set_option maxRecDepth 100000 in
set_option maxHeartbeats 4000000 in
theorem mQ_acknowledges_14 {n : Nat} {R : z_Mem → Prop} (hR : y_mQ n R) {Q Post : z_Mem → Prop} : ∀ (m : Nat) {x1 : Int32} {x2 : Int32} {x3 : Int32} {M : z_Mem} (S_M : y_S n M) (r_M : R M) (H : P_X12_acknowledges_14 (n + 40) Q m x1 x2 x3 M) (K : ∀ M1, Q M1 → y_S n M1 → R M1 → Post M1), P_X12_acknowledges_14 (n + 40) Post m x1 x2 x3 M := by
  intro m
  induction m with
  | zero => intros; rename_i H _; exact False.elim H
  | succ m ih =>
    intro x1 x2 x3 M S_M r_M H K
    unfold P_X12_acknowledges_14 at H ⊢
    refine And.intro (fun c1 => ?_) (fun c1 => ?_)
    · replace H := H.1 c1
      exact mQ_acknowledges_92 hR S_M r_M H K
    · replace H := H.2 c1
      refine And.intro (fun c2 => ?_) (fun c2 => ?_)
      · replace H := H.1 c2
        exact mQ_acknowledges_92 hR S_M r_M H K
      · replace H := H.2 c2
        replace H := z_nne (s_1569_40 S_M) H
        refine z_nn_of (s_1569_40 S_M) ?_
        refine And.intro H.1 ?_
        replace H := H.2
        refine And.intro (fun c3 => ?_) (fun c3 => ?_)
        · replace H := H.1 c3
          exact mQ_acknowledges_86 hR S_M r_M H K (fun v0 v1 v2 M1 q S u => ih S u q K)
        · replace H := H.2 c3
          obtain ⟨m, H⟩ := H
          refine ⟨m, ?_⟩
          exact mQ_acknowledges_35 hR m S_M r_M H K (fun v0 v1 v2 M1 q S u => ih S u q K)
set_option maxRecDepth 100000 in
set_option maxHeartbeats 4000000 in
theorem mQ_acknowledges {n : Nat} {R : z_Mem → Prop} (hR : y_mQ n R) {Q Post : z_Mem → Prop} {M : z_Mem} (S_M : y_S n M) (r_M : R M) (H : P_X12_acknowledges (n + 40) M Q) (K : ∀ M1, Q M1 → y_S n M1 → R M1 → Post M1) : P_X12_acknowledges (n + 40) M Post := by
  unfold P_X12_acknowledges at H ⊢
  intro x_64 e_x_64
  replace H := H x_64 e_x_64
  obtain ⟨m, H⟩ := H
  refine ⟨m, ?_⟩
  exact mQ_acknowledges_14 hR m S_M r_M H K
set_option maxRecDepth 100000 in
set_option maxHeartbeats 4000000 in
theorem mQ_isByKey {n : Nat} {R : z_Mem → Prop} (hR : y_mQ n R) {Q Post : Int32 → z_Mem → Prop} {p1 : Int32} {M : z_Mem} (S_M : y_S n M) (r_M : R M) (H : P_X12_isByKey (n + 40) p1 M Q) (K : ∀ x M1, Q x M1 → y_S n M1 → R M1 → Post x M1) : P_X12_isByKey (n + 40) p1 M Post := by
  unfold P_X12_isByKey at H ⊢
  refine And.intro (fun c1 => ?_) (fun c1 => ?_)
  · replace H := H.1 c1
    exact K _ _ H S_M r_M
  · replace H := H.2 c1
    refine And.intro (fun c2 => ?_) (fun c2 => ?_)
    · replace H := H.1 c2
      refine And.intro (fun c3 => ?_) (fun c3 => ?_)
      · replace H := H.1 c3
        exact K _ _ H S_M r_M
      · replace H := H.2 c3
        exact K _ _ H S_M r_M
    · replace H := H.2 c2
      exact K _ _ H S_M r_M
set_option maxRecDepth 100000 in
set_option maxHeartbeats 4000000 in
theorem mQ_takes_194 {n : Nat} {R : z_Mem → Prop} (hR : y_mQ n R) {Q Post : z_Mem → Prop} {x1 : Int32} {t0 : Int32} {M : z_Mem} (S_M : y_S n M) (r_M : R M) (H : P_X12_takes_194 (n + 40) Q x1 t0 M) (K : ∀ M1, Q M1 → y_S n M1 → R M1 → Post M1) : P_X12_takes_194 (n + 40) Post x1 t0 M := by
  unfold P_X12_takes_194 at H ⊢
  refine mQ_max hR S_M r_M H (fun x_2 M_2 H S_M_2 r_M_2 => ?_)
  intro M_3 e_M_3
  replace H := H M_3 e_M_3
  have S_M_3 : y_S n M_3 := by rw [e_M_3]; exact S_sfi S_M_2
  have r_M_3 : R M_3 := by rw [e_M_3]; exact hR.2.2 _ 1572 _ (by decide) r_M_2
  intro M_5 e_M_5
  replace H := H M_5 e_M_5
  have S_M_5 : y_S n M_5 := by rw [e_M_5]; exact S_sfi S_M_3
  have r_M_5 : R M_5 := by rw [e_M_5]; exact hR.2.2 _ 1573 _ (by decide) r_M_3
  replace H := z_nne (s_1601_40 S_M_5) H
  refine z_nn_of (s_1601_40 S_M_5) ?_
  refine And.intro H.1 ?_
  replace H := H.2
  refine And.intro (fun c1 => ?_) (fun c1 => ?_)
  · replace H := H.1 c1
    refine And.intro (fun c2 => ?_) (fun c2 => ?_)
    · replace H := H.1 c2
      refine mQ_acknowledges hR S_M_5 r_M_5 H (fun M_12 H S_M_12 r_M_12 => ?_)
      exact K _ H S_M_12 r_M_12
    · replace H := H.2 c2
      refine And.intro (fun c3 => ?_) (fun c3 => ?_)
      · replace H := H.1 c3
        refine mQ_acknowledges hR S_M_5 r_M_5 H (fun M_17 H S_M_17 r_M_17 => ?_)
        exact K _ H S_M_17 r_M_17
      · replace H := H.2 c3
        intro M_16 e_M_16
        replace H := H M_16 e_M_16
        have S_M_16 : y_S n M_16 := by rw [e_M_16]; exact S_sfi S_M_5
        have r_M_16 : R M_16 := by rw [e_M_16]; exact hR.2.2 _ 1574 _ (by decide) r_M_5
        exact K _ H S_M_16 r_M_16
  · replace H := H.2 c1
    refine mQ_acknowledges hR S_M_5 r_M_5 H (fun M_10 H S_M_10 r_M_10 => ?_)
    exact K _ H S_M_10 r_M_10
set_option maxRecDepth 100000 in
set_option maxHeartbeats 4000000 in
theorem mQ_takes_138 {n : Nat} {R : z_Mem → Prop} (hR : y_mQ n R) {Q Post : z_Mem → Prop} : ∀ (m : Nat) {x1 : Int32} {x2 : Int32} {M : z_Mem} (S_M : y_S n M) (r_M : R M) (H : P_X12_takes_138 (n + 40) Q m x1 x2 M) (K : ∀ M1, Q M1 → y_S n M1 → R M1 → Post M1), P_X12_takes_138 (n + 40) Post m x1 x2 M := by
  intro m
  induction m with
  | zero => intros; rename_i H _; exact False.elim H
  | succ m ih =>
    intro x1 x2 M S_M r_M H K
    unfold P_X12_takes_138 at H ⊢
    replace H := z_nne (s_1597_40 S_M) H
    refine z_nn_of (s_1597_40 S_M) ?_
    refine And.intro H.1 ?_
    replace H := H.2
    refine And.intro (fun c1 => ?_) (fun c1 => ?_)
    · replace H := H.1 c1
      refine And.intro (fun c2 => ?_) (fun c2 => ?_)
      · replace H := H.1 c2
        exact mQ_takes_194 hR S_M r_M H K
      · replace H := H.2 c2
        exact mQ_takes_194 hR S_M r_M H K
    · replace H := H.2 c1
      replace H := z_nne (s_1595_40 S_M) H
      refine z_nn_of (s_1595_40 S_M) ?_
      refine And.intro H.1 ?_
      replace H := H.2
      replace H := z_nne (s_1596_40 S_M) H
      refine z_nn_of (s_1596_40 S_M) ?_
      refine And.intro H.1 ?_
      replace H := H.2
      replace H := z_nne (s_1570_40 S_M) H
      refine z_nn_of (s_1570_40 S_M) ?_
      refine And.intro H.1 ?_
      replace H := H.2
      intro M_33 e_M_33
      replace H := H M_33 e_M_33
      have S_M_33 : y_S n M_33 := by rw [e_M_33]; exact S_sai S_M
      have r_M_33 : R M_33 := by rw [e_M_33]; exact hR.1 _ 64 _ _ (by decide) (by decide) (by decide) r_M
      intro x_34 e_x_34
      replace H := H x_34 e_x_34
      exact ih S_M_33 r_M_33 H K
set_option maxRecDepth 100000 in
set_option maxHeartbeats 4000000 in
theorem mQ_takes_132 {n : Nat} {R : z_Mem → Prop} (hR : y_mQ n R) {Q Post : z_Mem → Prop} {x1 : Int32} {t1 : Int32} {t2 : Int32} {o_t0 : Option Nat} {M : z_Mem} (ho_t0 : o_t0 = some (n + 40)) (S_M : y_S n M) (r_M : R M) (H : P_X12_takes_132 (n + 40) Q x1 o_t0 t1 t2 M) (K : ∀ M1, Q M1 → y_S n M1 → R M1 → Post M1) : P_X12_takes_132 (n + 40) Post x1 o_t0 t1 t2 M := by
  subst ho_t0
  unfold P_X12_takes_132 at H ⊢
  replace H := z_nne rfl H
  refine z_nn_of rfl ?_
  intro M_36 e_M_36
  replace H := H M_36 e_M_36
  have S_M_36 : y_S n M_36 := by rw [e_M_36]; exact S_sfi S_M
  have r_M_36 : R M_36 := by rw [e_M_36]; exact hR.2.2 _ 1576 _ (by decide) r_M
  obtain ⟨m, H⟩ := H
  refine ⟨m, ?_⟩
  exact mQ_takes_138 hR m S_M_36 r_M_36 H K
set_option maxRecDepth 100000 in
set_option maxHeartbeats 4000000 in
theorem mQ_takes_99 {n : Nat} {R : z_Mem → Prop} (hR : y_mQ n R) {Q Post : z_Mem → Prop} {x1 : Int32} {M : z_Mem} (S_M : y_S n M) (r_M : R M) (H : P_X12_takes_99 (n + 40) Q x1 M) (K : ∀ M1, Q M1 → y_S n M1 → R M1 → Post M1) : P_X12_takes_99 (n + 40) Post x1 M := by
  unfold P_X12_takes_99 at H ⊢
  replace H := z_nne (s_1599_40 S_M) H
  refine z_nn_of (s_1599_40 S_M) ?_
  refine And.intro H.1 ?_
  replace H := H.2
  intro M_41 e_M_41
  replace H := H M_41 e_M_41
  have S_M_41 : y_S n M_41 := by rw [e_M_41]; exact S_sai S_M
  have r_M_41 : R M_41 := by rw [e_M_41]; exact hR.1 _ 77 _ _ (by decide) (by decide) (by decide) r_M
  replace H := z_nne (s_1569_40 S_M_41) H
  refine z_nn_of (s_1569_40 S_M_41) ?_
  refine And.intro H.1 ?_
  replace H := H.2
  intro M_45 e_M_45
  replace H := H M_45 e_M_45
  have S_M_45 : y_S n M_45 := by rw [e_M_45]; exact S_sai S_M_41
  have r_M_45 : R M_45 := by rw [e_M_45]; exact hR.1 _ 63 _ _ (by decide) (by decide) (by decide) r_M_41
  replace H := z_nne (s_1603_40 S_M_45) H
  refine z_nn_of (s_1603_40 S_M_45) ?_
  refine And.intro H.1 ?_
  replace H := H.2
  refine And.intro (fun c1 => ?_) (fun c1 => ?_)
  · replace H := H.1 c1
    exact mQ_takes_132 hR rfl S_M_45 r_M_45 H K
  · replace H := H.2 c1
    exact mQ_takes_132 hR rfl S_M_45 r_M_45 H K
set_option maxRecDepth 100000 in
set_option maxHeartbeats 4000000 in
theorem mQ_takes_43 {n : Nat} {R : z_Mem → Prop} (hR : y_mQ n R) {Q Post : z_Mem → Prop} {x1 : Int32} {M : z_Mem} (S_M : y_S n M) (r_M : R M) (H : P_X12_takes_43 (n + 40) Q x1 M) (K : ∀ M1, Q M1 → y_S n M1 → R M1 → Post M1) : P_X12_takes_43 (n + 40) Post x1 M := by
  unfold P_X12_takes_43 at H ⊢
  replace H := z_nne (s_1600_40 S_M) H
  refine z_nn_of (s_1600_40 S_M) ?_
  refine And.intro H.1 ?_
  replace H := H.2
  refine And.intro (fun c1 => ?_) (fun c1 => ?_)
  · replace H := H.1 c1
    replace H := z_nne (s_1600_40 S_M) H
    refine z_nn_of (s_1600_40 S_M) ?_
    refine And.intro H.1 ?_
    replace H := H.2
    refine mQ_isByKey hR S_M r_M H (fun x_59 M_59 H S_M_59 r_M_59 => ?_)
    refine And.intro (fun c2 => ?_) (fun c2 => ?_)
    · replace H := H.1 c2
      exact K _ H S_M_59 r_M_59
    · replace H := H.2 c2
      exact mQ_takes_99 hR S_M_59 r_M_59 H K
  · replace H := H.2 c1
    intro M_62 e_M_62
    replace H := H M_62 e_M_62
    have S_M_62 : y_S n M_62 := by rw [e_M_62]; exact S_sfi S_M
    have r_M_62 : R M_62 := by rw [e_M_62]; exact hR.2.2 _ 1567 _ (by decide) r_M
    replace H := z_nne (s_1600_40 S_M_62) H
    refine z_nn_of (s_1600_40 S_M_62) ?_
    refine And.intro H.1 ?_
    replace H := H.2
    intro M_66 e_M_66
    replace H := H M_66 e_M_66
    have S_M_66 : y_S n M_66 := by rw [e_M_66]; exact S_sfi S_M_62
    have r_M_66 : R M_66 := by rw [e_M_66]; exact hR.2.2 _ 1566 _ (by decide) r_M_62
    intro M_68 e_M_68
    replace H := H M_68 e_M_68
    have S_M_68 : y_S n M_68 := by rw [e_M_68]; exact S_sfi S_M_66
    have r_M_68 : R M_68 := by rw [e_M_68]; exact hR.2.2 _ 1568 _ (by decide) r_M_66
    exact mQ_takes_99 hR S_M_68 r_M_68 H K
set_option maxRecDepth 100000 in
set_option maxHeartbeats 4000000 in
theorem mQ_takes {n : Nat} {R : z_Mem → Prop} (hR : y_mQ n R) {Q Post : z_Mem → Prop} {p1 : Int32} {M : z_Mem} (S_M : y_S n M) (r_M : R M) (H : P_X12_takes (n + 40) p1 M Q) (K : ∀ M1, Q M1 → y_S n M1 → R M1 → Post M1) : P_X12_takes (n + 40) p1 M Post := by
  unfold P_X12_takes at H ⊢
  replace H := z_nne (s_1599_40 S_M) H
  refine z_nn_of (s_1599_40 S_M) ?_
  refine And.intro H.1 ?_
  replace H := H.2
  intro M_72 e_M_72
  replace H := H M_72 e_M_72
  have S_M_72 : y_S n M_72 := by rw [e_M_72]; exact S_sai S_M
  have r_M_72 : R M_72 := by rw [e_M_72]; exact hR.1 _ 77 _ _ (by decide) (by decide) (by decide) r_M
  refine And.intro (fun c1 => ?_) (fun c1 => ?_)
  · replace H := H.1 c1
    replace H := z_nne (s_1593_40 S_M_72) H
    refine z_nn_of (s_1593_40 S_M_72) ?_
    refine And.intro H.1 ?_
    replace H := H.2
    intro M_78 e_M_78
    replace H := H M_78 e_M_78
    have S_M_78 : y_S n M_78 := by rw [e_M_78]; exact S_sfi S_M_72
    have r_M_78 : R M_78 := by rw [e_M_78]; exact hR.2.2 _ 1575 _ (by decide) r_M_72
    replace H := z_nne (s_1602_40 S_M_78) H
    refine z_nn_of (s_1602_40 S_M_78) ?_
    refine And.intro H.1 ?_
    replace H := H.2
    refine And.intro (fun c2 => ?_) (fun c2 => ?_)
    · replace H := H.1 c2
      exact mQ_takes_43 hR S_M_78 r_M_78 H K
    · replace H := H.2 c2
      refine And.intro (fun c3 => ?_) (fun c3 => ?_)
      · replace H := H.1 c3
        exact K _ H S_M_78 r_M_78
      · replace H := H.2 c3
        exact mQ_takes_43 hR S_M_78 r_M_78 H K
  · replace H := H.2 c1
    exact K _ H S_M_72 r_M_72
set_option maxRecDepth 100000 in
set_option maxHeartbeats 4000000 in
theorem mQ_hears_124 {n : Nat} {R : z_Mem → Prop} (hR : y_mQ n R) {Q Post : z_Mem → Prop} {x1 : Int32} {M : z_Mem} (S_M : y_S n M) (r_M : R M) (H : P_X12_hears_124 (n + 40) Q x1 M) (K : ∀ M1, Q M1 → y_S n M1 → R M1 → Post M1) : P_X12_hears_124 (n + 40) Post x1 M := by
  unfold P_X12_hears_124 at H ⊢
  refine And.intro (fun c1 => ?_) (fun c1 => ?_)
  · replace H := H.1 c1
    refine mQ_answers hR S_M r_M H (fun M_3 H S_M_3 r_M_3 => ?_)
    exact K _ H S_M_3 r_M_3
  · replace H := H.2 c1
    refine mQ_answers hR S_M r_M H (fun M_4 H S_M_4 r_M_4 => ?_)
    exact K _ H S_M_4 r_M_4
set_option maxRecDepth 100000 in
set_option maxHeartbeats 4000000 in
theorem mQ_hears_106 {n : Nat} {R : z_Mem → Prop} (hR : y_mQ n R) {Q Post : z_Mem → Prop} {x1 : Int32} {x4 : Int32} {t1 : Int32} {o_t0 : Option Nat} {M : z_Mem} (ho_t0 : o_t0 = some (n + 40)) (S_M : y_S n M) (r_M : R M) (H : P_X12_hears_106 (n + 40) Q x1 x4 o_t0 t1 M) (K : ∀ M1, Q M1 → y_S n M1 → R M1 → Post M1) : P_X12_hears_106 (n + 40) Post x1 x4 o_t0 t1 M := by
  subst ho_t0
  unfold P_X12_hears_106 at H ⊢
  replace H := z_nne rfl H
  refine z_nn_of rfl ?_
  intro M_6 e_M_6
  replace H := H M_6 e_M_6
  have S_M_6 : y_S n M_6 := by rw [e_M_6]; exact S_sfi S_M
  have r_M_6 : R M_6 := by rw [e_M_6]; exact hR.2.2 _ 1564 _ (by decide) r_M
  refine And.intro (fun c1 => ?_) (fun c1 => ?_)
  · replace H := H.1 c1
    exact mQ_hears_124 hR S_M_6 r_M_6 H K
  · replace H := H.2 c1
    replace H := z_nne (s_1565_40 S_M_6) H
    refine z_nn_of (s_1565_40 S_M_6) ?_
    refine And.intro H.1 ?_
    replace H := H.2
    intro M_12 e_M_12
    replace H := H M_12 e_M_12
    have S_M_12 : y_S n M_12 := by rw [e_M_12]; exact S_sai S_M_6
    have r_M_12 : R M_12 := by rw [e_M_12]; exact hR.1 _ 62 _ _ (by decide) (by decide) (by decide) r_M_6
    exact mQ_hears_124 hR S_M_12 r_M_12 H K
set_option maxRecDepth 100000 in
set_option maxHeartbeats 4000000 in
theorem mQ_hears_105 {n : Nat} {R : z_Mem → Prop} (hR : y_mQ n R) {Q Post : z_Mem → Prop} {x1 : Int32} {x4 : Int32} {o_t0 : Option Nat} {M : z_Mem} (ho_t0 : o_t0 = some (n + 40)) (S_M : y_S n M) (r_M : R M) (H : P_X12_hears_105 (n + 40) Q x1 x4 o_t0 M) (K : ∀ M1, Q M1 → y_S n M1 → R M1 → Post M1) : P_X12_hears_105 (n + 40) Post x1 x4 o_t0 M := by
  subst ho_t0
  unfold P_X12_hears_105 at H ⊢
  exact mQ_hears_106 hR rfl S_M r_M H K
set_option maxRecDepth 100000 in
set_option maxHeartbeats 4000000 in
theorem mQ_hears_80 {n : Nat} {R : z_Mem → Prop} (hR : y_mQ n R) {Q Post : z_Mem → Prop} {x1 : Int32} {x4 : Int32} {M : z_Mem} (S_M : y_S n M) (r_M : R M) (H : P_X12_hears_80 (n + 40) Q x1 x4 M) (K : ∀ M1, Q M1 → y_S n M1 → R M1 → Post M1) : P_X12_hears_80 (n + 40) Post x1 x4 M := by
  unfold P_X12_hears_80 at H ⊢
  intro M_13 e_M_13
  replace H := H M_13 e_M_13
  have S_M_13 : y_S n M_13 := by rw [e_M_13]; exact S_sfi S_M
  have r_M_13 : R M_13 := by rw [e_M_13]; exact hR.2.2 _ 1562 _ (by decide) r_M
  refine And.intro (fun c1 => ?_) (fun c1 => ?_)
  · replace H := H.1 c1
    exact mQ_hears_105 hR rfl S_M_13 r_M_13 H K
  · replace H := H.2 c1
    replace H := z_nne (s_1565_40 S_M_13) H
    refine z_nn_of (s_1565_40 S_M_13) ?_
    refine And.intro H.1 ?_
    replace H := H.2
    refine And.intro (fun c2 => ?_) (fun c2 => ?_)
    · replace H := H.1 c2
      exact mQ_hears_106 hR rfl S_M_13 r_M_13 H K
    · replace H := H.2 c2
      exact mQ_hears_105 hR rfl S_M_13 r_M_13 H K
set_option maxRecDepth 100000 in
set_option maxHeartbeats 4000000 in
theorem mQ_hears_12 {n : Nat} {R : z_Mem → Prop} (hR : y_mQ n R) {Q Post : z_Mem → Prop} {x1 : Int32} {x2 : Int32} {t0 : Int32} {M : z_Mem} (S_M : y_S n M) (r_M : R M) (H : P_X12_hears_12 (n + 40) Q x1 x2 t0 M) (K : ∀ M1, Q M1 → y_S n M1 → R M1 → Post M1) : P_X12_hears_12 (n + 40) Post x1 x2 t0 M := by
  unfold P_X12_hears_12 at H ⊢
  intro x_19 e_x_19
  replace H := H x_19 e_x_19
  refine And.intro (fun c1 => ?_) (fun c1 => ?_)
  · replace H := H.1 c1
    exact K _ H S_M r_M
  · replace H := H.2 c1
    refine And.intro (fun c2 => ?_) (fun c2 => ?_)
    · replace H := H.1 c2
      refine And.intro (fun c3 => ?_) (fun c3 => ?_)
      · replace H := H.1 c3
        refine mQ_answers hR S_M r_M H (fun M_30 H S_M_30 r_M_30 => ?_)
        exact K _ H S_M_30 r_M_30
      · replace H := H.2 c3
        refine mQ_answers hR S_M r_M H (fun M_31 H S_M_31 r_M_31 => ?_)
        exact K _ H S_M_31 r_M_31
    · replace H := H.2 c2
      refine And.intro (fun c4 => ?_) (fun c4 => ?_)
      · replace H := H.1 c4
        exact mQ_hears_80 hR S_M r_M H K
      · replace H := H.2 c4
        refine And.intro (fun c5 => ?_) (fun c5 => ?_)
        · replace H := H.1 c5
          refine mQ_answers hR S_M r_M H (fun M_27 H S_M_27 r_M_27 => ?_)
          exact K _ H S_M_27 r_M_27
        · replace H := H.2 c5
          exact mQ_hears_80 hR S_M r_M H K
set_option maxRecDepth 100000 in
set_option maxHeartbeats 4000000 in
theorem mQ_hears {n : Nat} {R : z_Mem → Prop} (hR : y_mQ n R) {Q Post : z_Mem → Prop} {p1 : Int32} {p2 : Int32} {M : z_Mem} (S_M : y_S n M) (r_M : R M) (H : P_X12_hears (n + 40) p1 p2 M Q) (K : ∀ M1, Q M1 → y_S n M1 → R M1 → Post M1) : P_X12_hears (n + 40) p1 p2 M Post := by
  unfold P_X12_hears at H ⊢
  refine And.intro (fun c1 => ?_) (fun c1 => ?_)
  · replace H := H.1 c1
    exact mQ_hears_12 hR S_M r_M H K
  · replace H := H.2 c1
    exact mQ_hears_12 hR S_M r_M H K
set_option maxRecDepth 100000 in
set_option maxHeartbeats 4000000 in
theorem mQ_arrivesAtServer_46 {n : Nat} {R : z_Mem → Prop} (hR : y_mQ n R) {Q Post : z_Mem → Prop} {x2 : Int32} {x3 : Int32} {M : z_Mem} (S_M : y_S n M) (r_M : R M) (H : P_X12_arrivesAtServer_46 (n + 40) Q x2 x3 M) (K : ∀ M1, Q M1 → y_S n M1 → R M1 → Post M1) : P_X12_arrivesAtServer_46 (n + 40) Post x2 x3 M := by
  unfold P_X12_arrivesAtServer_46 at H ⊢
  refine And.intro (fun c1 => ?_) (fun c1 => ?_)
  · replace H := H.1 c1
    refine mQ_answers hR S_M r_M H (fun M_11 H S_M_11 r_M_11 => ?_)
    exact K _ H S_M_11 r_M_11
  · replace H := H.2 c1
    refine And.intro (fun c2 => ?_) (fun c2 => ?_)
    · replace H := H.1 c2
      refine And.intro (fun c3 => ?_) (fun c3 => ?_)
      · replace H := H.1 c3
        refine mQ_answers hR S_M r_M H (fun M_10 H S_M_10 r_M_10 => ?_)
        exact K _ H S_M_10 r_M_10
      · replace H := H.2 c3
        refine And.intro (fun c4 => ?_) (fun c4 => ?_)
        · replace H := H.1 c4
          intro M_9 e_M_9
          replace H := H M_9 e_M_9
          have S_M_9 : y_S n M_9 := by rw [e_M_9]; exact S_sfi S_M
          have r_M_9 : R M_9 := by rw [e_M_9]; exact hR.2.2 _ 1562 _ (by decide) r_M
          exact K _ H S_M_9 r_M_9
        · replace H := H.2 c4
          exact K _ H S_M r_M
    · replace H := H.2 c2
      refine And.intro (fun c5 => ?_) (fun c5 => ?_)
      · replace H := H.1 c5
        intro M_5 e_M_5
        replace H := H M_5 e_M_5
        have S_M_5 : y_S n M_5 := by rw [e_M_5]; exact S_sfi S_M
        have r_M_5 : R M_5 := by rw [e_M_5]; exact hR.2.2 _ 1562 _ (by decide) r_M
        exact K _ H S_M_5 r_M_5
      · replace H := H.2 c5
        exact K _ H S_M r_M
set_option maxRecDepth 100000 in
set_option maxHeartbeats 4000000 in
theorem mQ_arrivesAtServer {n : Nat} {R : z_Mem → Prop} (hR : y_mQ n R) {Q Post : z_Mem → Prop} {p1 : Int32} {M : z_Mem} (S_M : y_S n M) (r_M : R M) (H : P_X12_arrivesAtServer (n + 40) p1 M Q) (K : ∀ M1, Q M1 → y_S n M1 → R M1 → Post M1) : P_X12_arrivesAtServer (n + 40) p1 M Post := by
  unfold P_X12_arrivesAtServer at H ⊢
  replace H := z_nne (s_1548_40 S_M) H
  refine z_nn_of (s_1548_40 S_M) ?_
  refine And.intro H.1 ?_
  replace H := H.2
  intro x_15 e_x_15
  replace H := H x_15 e_x_15
  replace H := z_nne (s_1550_40 S_M) H
  refine z_nn_of (s_1550_40 S_M) ?_
  refine And.intro H.1 ?_
  replace H := H.2
  intro x_19 e_x_19
  replace H := H x_19 e_x_19
  refine And.intro (fun c1 => ?_) (fun c1 => ?_)
  · replace H := H.1 c1
    replace H := z_nne (s_1549_40 S_M) H
    refine z_nn_of (s_1549_40 S_M) ?_
    refine And.intro H.1 ?_
    replace H := H.2
    refine mQ_hears hR S_M r_M H (fun M_29 H S_M_29 r_M_29 => ?_)
    exact K _ H S_M_29 r_M_29
  · replace H := H.2 c1
    refine And.intro (fun c2 => ?_) (fun c2 => ?_)
    · replace H := H.1 c2
      replace H := z_nne (s_1549_40 S_M) H
      refine z_nn_of (s_1549_40 S_M) ?_
      refine And.intro H.1 ?_
      replace H := H.2
      refine mQ_takes hR S_M r_M H (fun M_25 H S_M_25 r_M_25 => ?_)
      exact mQ_arrivesAtServer_46 hR S_M_25 r_M_25 H K
    · replace H := H.2 c2
      exact mQ_arrivesAtServer_46 hR S_M r_M H K
set_option maxRecDepth 100000 in
set_option maxHeartbeats 4000000 in
theorem mQ_setCookies {n : Nat} {R : z_Mem → Prop} (hR : y_mQ n R) {Q Post : Int32 → z_Mem → Prop} {p1 : Int32} {M : z_Mem} (S_M : y_S n M) (r_M : R M) (H : P_X12_setCookies (n + 40) p1 M Q) (K : ∀ x M1, Q x M1 → y_S n M1 → R M1 → Post x M1) : P_X12_setCookies (n + 40) p1 M Post := by
  unfold P_X12_setCookies at H ⊢
  intro M_1 e_M_1
  replace H := H M_1 e_M_1
  have S_M_1 : y_S n M_1 := by rw [e_M_1]; exact S_sfi S_M
  have r_M_1 : R M_1 := by rw [e_M_1]; exact hR.2.2 _ 1630 _ (by decide) r_M
  intro x_3 e_x_3
  replace H := H x_3 e_x_3
  intro M_4 e_M_4
  replace H := H M_4 e_M_4
  have S_M_4 : y_S n M_4 := by rw [e_M_4]; exact S_sfi S_M_1
  have r_M_4 : R M_4 := by rw [e_M_4]; exact hR.2.2 _ 1563 _ (by decide) r_M_1
  exact K _ _ H S_M_4 r_M_4
set_option maxRecDepth 100000 in
set_option maxHeartbeats 4000000 in
theorem mQ_read_45 {n : Nat} {R : z_Mem → Prop} (hR : y_mQ n R) {Q Post : Int32 → z_Mem → Prop} {x1 : Int32} {t0 : Int32} {M : z_Mem} (S_M : y_S n M) (r_M : R M) (H : P_X12_read_45 (n + 40) Q x1 t0 M) (K : ∀ x M1, Q x M1 → y_S n M1 → R M1 → Post x M1) : P_X12_read_45 (n + 40) Post x1 t0 M := by
  unfold P_X12_read_45 at H ⊢
  replace H := z_nne (s_1571_40 S_M) H
  refine z_nn_of (s_1571_40 S_M) ?_
  refine And.intro H.1 ?_
  replace H := H.2
  refine And.intro H.1 ?_
  replace H := H.2
  intro M_5 e_M_5
  replace H := H M_5 e_M_5
  have S_M_5 : y_S n M_5 := by rw [e_M_5]; exact S_sai S_M
  have r_M_5 : R M_5 := by rw [e_M_5]; exact hR.1 _ 65 _ _ (by decide) (by decide) (by decide) r_M
  refine And.intro (fun c1 => ?_) (fun c1 => ?_)
  · replace H := H.1 c1
    exact K _ _ H S_M_5 r_M_5
  · replace H := H.2 c1
    refine And.intro (fun c2 => ?_) (fun c2 => ?_)
    · replace H := H.1 c2
      refine And.intro (fun c3 => ?_) (fun c3 => ?_)
      · replace H := H.1 c3
        exact K _ _ H S_M_5 r_M_5
      · replace H := H.2 c3
        refine mQ_acknowledges hR S_M_5 r_M_5 H (fun M_11 H S_M_11 r_M_11 => ?_)
        exact K _ _ H S_M_11 r_M_11
    · replace H := H.2 c2
      exact K _ _ H S_M_5 r_M_5
set_option maxRecDepth 100000 in
set_option maxHeartbeats 4000000 in
theorem mQ_read {n : Nat} {R : z_Mem → Prop} (hR : y_mQ n R) {Q Post : Int32 → z_Mem → Prop} {p1 : Int32} {p2 : Int32} {M : z_Mem} (S_M : y_S n M) (r_M : R M) (H : P_X12_read (n + 40) p1 p2 M Q) (K : ∀ x M1, Q x M1 → y_S n M1 → R M1 → Post x M1) : P_X12_read (n + 40) p1 p2 M Post := by
  unfold P_X12_read at H ⊢
  refine mQ_isStream hR S_M r_M H (fun x_12 M_12 H S_M_12 r_M_12 => ?_)
  refine mQ_in hR S_M_12 r_M_12 H (fun x_13 M_13 H S_M_13 r_M_13 => ?_)
  refine mQ_goes hR S_M_13 r_M_13 H (fun x_14 M_14 H S_M_14 r_M_14 => ?_)
  refine And.intro (fun c1 => ?_) (fun c1 => ?_)
  · replace H := H.1 c1
    exact K _ _ H S_M_14 r_M_14
  · replace H := H.2 c1
    refine mQ_gotOf hR S_M_14 r_M_14 H (fun x_16 M_16 H S_M_16 r_M_16 => ?_)
    replace H := z_nne (s_1571_40 S_M_16) H
    refine z_nn_of (s_1571_40 S_M_16) ?_
    refine And.intro H.1 ?_
    replace H := H.2
    intro x_20 e_x_20
    replace H := H x_20 e_x_20
    refine And.intro (fun c2 => ?_) (fun c2 => ?_)
    · replace H := H.1 c2
      exact mQ_read_45 hR S_M_16 r_M_16 H K
    · replace H := H.2 c2
      exact mQ_read_45 hR S_M_16 r_M_16 H K
set_option maxRecDepth 100000 in
set_option maxHeartbeats 4000000 in
theorem mQ_loseState_12 {n : Nat} {R : z_Mem → Prop} (hR : y_mQ n R) {Q Post : z_Mem → Prop} : ∀ (m : Nat) {x1 : Int32} {M : z_Mem} (S_M : y_S n M) (r_M : R M) (H : P_X12_loseState_12 (n + 40) Q m x1 M) (K : ∀ M1, Q M1 → y_S n M1 → R M1 → Post M1), P_X12_loseState_12 (n + 40) Post m x1 M := by
  intro m
  induction m with
  | zero => intros; rename_i H _; exact False.elim H
  | succ m ih =>
    intro x1 M S_M r_M H K
    unfold P_X12_loseState_12 at H ⊢
    refine And.intro (fun c1 => ?_) (fun c1 => ?_)
    · replace H := H.1 c1
      intro M_2 e_M_2
      replace H := H M_2 e_M_2
      have S_M_2 : y_S n M_2 := by rw [e_M_2]; exact S_sfi S_M
      have r_M_2 : R M_2 := by rw [e_M_2]; exact hR.2.2 _ 1572 _ (by decide) r_M
      intro M_3 e_M_3
      replace H := H M_3 e_M_3
      have S_M_3 : y_S n M_3 := by rw [e_M_3]; exact S_sfi S_M_2
      have r_M_3 : R M_3 := by rw [e_M_3]; exact hR.2.2 _ 1573 _ (by decide) r_M_2
      intro M_4 e_M_4
      replace H := H M_4 e_M_4
      have S_M_4 : y_S n M_4 := by rw [e_M_4]; exact S_sfi S_M_3
      have r_M_4 : R M_4 := by rw [e_M_4]; exact hR.2.2 _ 1574 _ (by decide) r_M_3
      intro M_5 e_M_5
      replace H := H M_5 e_M_5
      have S_M_5 : y_S n M_5 := by rw [e_M_5]; exact S_sfi S_M_4
      have r_M_5 : R M_5 := by rw [e_M_5]; exact hR.2.2 _ 1575 _ (by decide) r_M_4
      intro M_6 e_M_6
      replace H := H M_6 e_M_6
      have S_M_6 : y_S n M_6 := by rw [e_M_6]; exact S_sfi S_M_5
      have r_M_6 : R M_6 := by rw [e_M_6]; exact hR.2.2 _ 1576 _ (by decide) r_M_5
      exact K _ H S_M_6 r_M_6
    · replace H := H.2 c1
      replace H := z_nne (s_1569_40 S_M) H
      refine z_nn_of (s_1569_40 S_M) ?_
      refine And.intro H.1 ?_
      replace H := H.2
      intro M_10 e_M_10
      replace H := H M_10 e_M_10
      have S_M_10 : y_S n M_10 := by rw [e_M_10]; exact S_sai S_M
      have r_M_10 : R M_10 := by rw [e_M_10]; exact hR.1 _ 63 _ _ (by decide) (by decide) (by decide) r_M
      intro x_11 e_x_11
      replace H := H x_11 e_x_11
      exact ih S_M_10 r_M_10 H K
set_option maxRecDepth 100000 in
set_option maxHeartbeats 4000000 in
theorem mQ_loseState {n : Nat} {R : z_Mem → Prop} (hR : y_mQ n R) {Q Post : z_Mem → Prop} {M : z_Mem} (S_M : y_S n M) (r_M : R M) (H : P_X12_loseState (n + 40) M Q) (K : ∀ M1, Q M1 → y_S n M1 → R M1 → Post M1) : P_X12_loseState (n + 40) M Post := by
  unfold P_X12_loseState at H ⊢
  intro M_12 e_M_12
  replace H := H M_12 e_M_12
  have S_M_12 : y_S n M_12 := by rw [e_M_12]; exact S_sfi S_M
  have r_M_12 : R M_12 := by rw [e_M_12]; exact hR.2.2 _ 1630 _ (by decide) r_M
  intro M_13 e_M_13
  replace H := H M_13 e_M_13
  have S_M_13 : y_S n M_13 := by rw [e_M_13]; exact S_sfi S_M_12
  have r_M_13 : R M_13 := by rw [e_M_13]; exact hR.2.2 _ 1562 _ (by decide) r_M_12
  obtain ⟨m, H⟩ := H
  refine ⟨m, ?_⟩
  exact mQ_loseState_12 hR m S_M_13 r_M_13 H K
set_option maxRecDepth 100000 in
set_option maxHeartbeats 4000000 in
theorem mQ_measures_105 {n : Nat} {R : z_Mem → Prop} (hR : y_mQ n R) {Q Post : z_Mem → Prop} {x1 : Int32} {x2 : Int32} {t1 : Int32} {t2 : Int32} {t3 : Int32} {t0 : Nat} {o_t0 : Option Nat} {M : z_Mem} (h0_t0 : 41 ≤ t0) (h1_t0 : t0 < 107) (h2_t0 : t0 ≠ 92) (ho_t0 : o_t0 = some (n + t0)) (S_M : y_S n M) (r_M : R M) (H : P_X12_measures_105 (n + 40) Q x1 x2 o_t0 t1 t2 t3 M) (K : ∀ M1, Q M1 → y_S n M1 → R M1 → Post M1) : P_X12_measures_105 (n + 40) Post x1 x2 o_t0 t1 t2 t3 M := by
  subst ho_t0
  unfold P_X12_measures_105 at H ⊢
  replace H := z_nne (s_1611_40 S_M) H
  refine z_nn_of (s_1611_40 S_M) ?_
  refine And.intro H.1 ?_
  replace H := H.2
  replace H := z_nne rfl H
  refine z_nn_of rfl ?_
  refine And.intro H.1 ?_
  replace H := H.2
  intro M_6 e_M_6
  replace H := H M_6 e_M_6
  have S_M_6 : y_S n M_6 := by rw [e_M_6]; exact S_sai S_M
  have r_M_6 : R M_6 := by rw [e_M_6]; exact hR.1 _ t0 _ _ h0_t0 h1_t0 h2_t0 r_M
  replace H := z_nne (s_1610_40 S_M_6) H
  refine z_nn_of (s_1610_40 S_M_6) ?_
  refine And.intro H.1 ?_
  replace H := H.2
  replace H := z_nne (s_1610_40 S_M_6) H
  refine z_nn_of (s_1610_40 S_M_6) ?_
  refine And.intro H.1 ?_
  replace H := H.2
  refine And.intro H.1 ?_
  replace H := H.2
  intro M_14 e_M_14
  replace H := H M_14 e_M_14
  have S_M_14 : y_S n M_14 := by rw [e_M_14]; exact S_sai S_M_6
  have r_M_14 : R M_14 := by rw [e_M_14]; exact hR.1 _ 87 _ _ (by decide) (by decide) (by decide) r_M_6
  exact K _ H S_M_14 r_M_14
set_option maxRecDepth 100000 in
set_option maxHeartbeats 4000000 in
theorem mQ_measures_75 {n : Nat} {R : z_Mem → Prop} (hR : y_mQ n R) {Q Post : z_Mem → Prop} {x1 : Int32} {x2 : Int32} {t1 : Int32} {t2 : Int32} {t0 : Nat} {o_t0 : Option Nat} {M : z_Mem} (h0_t0 : 41 ≤ t0) (h1_t0 : t0 < 107) (h2_t0 : t0 ≠ 92) (ho_t0 : o_t0 = some (n + t0)) (S_M : y_S n M) (r_M : R M) (H : P_X12_measures_75 (n + 40) Q x1 x2 o_t0 t1 t2 M) (K : ∀ M1, Q M1 → y_S n M1 → R M1 → Post M1) : P_X12_measures_75 (n + 40) Post x1 x2 o_t0 t1 t2 M := by
  subst ho_t0
  unfold P_X12_measures_75 at H ⊢
  replace H := z_nne rfl H
  refine z_nn_of rfl ?_
  refine And.intro H.1 ?_
  replace H := H.2
  intro M_17 e_M_17
  replace H := H M_17 e_M_17
  have S_M_17 : y_S n M_17 := by rw [e_M_17]; exact S_sai S_M
  have r_M_17 : R M_17 := by rw [e_M_17]; exact hR.1 _ t0 _ _ h0_t0 h1_t0 h2_t0 r_M
  replace H := z_nne (s_1610_40 S_M_17) H
  refine z_nn_of (s_1610_40 S_M_17) ?_
  refine And.intro H.1 ?_
  replace H := H.2
  intro x_21 e_x_21
  replace H := H x_21 e_x_21
  replace H := z_nne (s_1611_40 S_M_17) H
  refine z_nn_of (s_1611_40 S_M_17) ?_
  refine And.intro H.1 ?_
  replace H := H.2
  refine And.intro (fun c1 => ?_) (fun c1 => ?_)
  · replace H := H.1 c1
    exact mQ_measures_105 hR (by decide) (by decide) (by decide) (s_1611_40 S_M_17) S_M_17 r_M_17 H K
  · replace H := H.2 c1
    exact mQ_measures_105 hR (by decide) (by decide) (by decide) (s_1611_40 S_M_17) S_M_17 r_M_17 H K
set_option maxRecDepth 100000 in
set_option maxHeartbeats 4000000 in
theorem mQ_measures {n : Nat} {R : z_Mem → Prop} (hR : y_mQ n R) {Q Post : z_Mem → Prop} {p1 : Int32} {p2 : Int32} {M : z_Mem} (S_M : y_S n M) (r_M : R M) (H : P_X12_measures (n + 40) p1 p2 M Q) (K : ∀ M1, Q M1 → y_S n M1 → R M1 → Post M1) : P_X12_measures (n + 40) p1 p2 M Post := by
  unfold P_X12_measures at H ⊢
  replace H := z_nne (s_1613_40 S_M) H
  refine z_nn_of (s_1613_40 S_M) ?_
  refine And.intro H.1 ?_
  replace H := H.2
  intro M_29 e_M_29
  replace H := H M_29 e_M_29
  have S_M_29 : y_S n M_29 := by rw [e_M_29]; exact S_sai S_M
  have r_M_29 : R M_29 := by rw [e_M_29]; exact hR.1 _ 90 _ _ (by decide) (by decide) (by decide) r_M
  replace H := z_nne (s_1614_40 S_M_29) H
  refine z_nn_of (s_1614_40 S_M_29) ?_
  refine And.intro H.1 ?_
  replace H := H.2
  refine And.intro (fun c1 => ?_) (fun c1 => ?_)
  · replace H := H.1 c1
    replace H := z_nne (s_1614_40 S_M_29) H
    refine z_nn_of (s_1614_40 S_M_29) ?_
    refine And.intro H.1 ?_
    replace H := H.2
    intro M_45 e_M_45
    replace H := H M_45 e_M_45
    have S_M_45 : y_S n M_45 := by rw [e_M_45]; exact S_sai S_M_29
    have r_M_45 : R M_45 := by rw [e_M_45]; exact hR.1 _ 91 _ _ (by decide) (by decide) (by decide) r_M_29
    replace H := z_nne (s_1610_40 S_M_45) H
    refine z_nn_of (s_1610_40 S_M_45) ?_
    refine And.intro H.1 ?_
    replace H := H.2
    intro M_49 e_M_49
    replace H := H M_49 e_M_49
    have S_M_49 : y_S n M_49 := by rw [e_M_49]; exact S_sai S_M_45
    have r_M_49 : R M_49 := by rw [e_M_49]; exact hR.1 _ 87 _ _ (by decide) (by decide) (by decide) r_M_45
    replace H := z_nne (s_1611_40 S_M_49) H
    refine z_nn_of (s_1611_40 S_M_49) ?_
    refine And.intro H.1 ?_
    replace H := H.2
    intro M_53 e_M_53
    replace H := H M_53 e_M_53
    have S_M_53 : y_S n M_53 := by rw [e_M_53]; exact S_sai S_M_49
    have r_M_53 : R M_53 := by rw [e_M_53]; exact hR.1 _ 88 _ _ (by decide) (by decide) (by decide) r_M_49
    replace H := z_nne (s_1612_40 S_M_53) H
    refine z_nn_of (s_1612_40 S_M_53) ?_
    refine And.intro H.1 ?_
    replace H := H.2
    intro M_57 e_M_57
    replace H := H M_57 e_M_57
    have S_M_57 : y_S n M_57 := by rw [e_M_57]; exact S_sai S_M_53
    have r_M_57 : R M_57 := by rw [e_M_57]; exact hR.1 _ 89 _ _ (by decide) (by decide) (by decide) r_M_53
    exact K _ H S_M_57 r_M_57
  · replace H := H.2 c1
    replace H := z_nne (s_1612_40 S_M_29) H
    refine z_nn_of (s_1612_40 S_M_29) ?_
    refine And.intro H.1 ?_
    replace H := H.2
    refine And.intro (fun c2 => ?_) (fun c2 => ?_)
    · replace H := H.1 c2
      replace H := z_nne (s_1612_40 S_M_29) H
      refine z_nn_of (s_1612_40 S_M_29) ?_
      refine And.intro H.1 ?_
      replace H := H.2
      exact mQ_measures_75 hR (by decide) (by decide) (by decide) (s_1612_40 S_M_29) S_M_29 r_M_29 H K
    · replace H := H.2 c2
      exact mQ_measures_75 hR (by decide) (by decide) (by decide) (s_1612_40 S_M_29) S_M_29 r_M_29 H K
set_option maxRecDepth 100000 in
set_option maxHeartbeats 4000000 in
theorem mQ_inFlight_37 {n : Nat} {R : z_Mem → Prop} (hR : y_mQ n R) {Q Post : Int32 → z_Mem → Prop} {QJ4 PJ4 : Int32 → Int32 → Int32 → z_Mem → Prop} {x1 : Int32} {x3 : Int32} {t0 : Int32} {t1 : Int32} {M : z_Mem} (S_M : y_S n M) (r_M : R M) (H : P_X12_inFlight_37 (n + 40) Q QJ4 x1 x3 t0 t1 M) (K : ∀ x M1, Q x M1 → y_S n M1 → R M1 → Post x M1) (KJ4 : ∀ v0 v1 v2 M1, QJ4 v0 v1 v2 M1 → y_S n M1 → R M1 → PJ4 v0 v1 v2 M1) : P_X12_inFlight_37 (n + 40) Post PJ4 x1 x3 t0 t1 M := by
  unfold P_X12_inFlight_37 at H ⊢
  intro x_1 e_x_1
  replace H := H x_1 e_x_1
  intro x_2 e_x_2
  replace H := H x_2 e_x_2
  exact KJ4 _ _ _ _ H S_M r_M
set_option maxRecDepth 100000 in
set_option maxHeartbeats 4000000 in
theorem mQ_inFlight_36 {n : Nat} {R : z_Mem → Prop} (hR : y_mQ n R) {Q Post : Int32 → z_Mem → Prop} {QJ4 PJ4 : Int32 → Int32 → Int32 → z_Mem → Prop} {x1 : Int32} {x3 : Int32} {t0 : Int32} {M : z_Mem} (S_M : y_S n M) (r_M : R M) (H : P_X12_inFlight_36 (n + 40) Q QJ4 x1 x3 t0 M) (K : ∀ x M1, Q x M1 → y_S n M1 → R M1 → Post x M1) (KJ4 : ∀ v0 v1 v2 M1, QJ4 v0 v1 v2 M1 → y_S n M1 → R M1 → PJ4 v0 v1 v2 M1) : P_X12_inFlight_36 (n + 40) Post PJ4 x1 x3 t0 M := by
  unfold P_X12_inFlight_36 at H ⊢
  exact mQ_inFlight_37 hR S_M r_M H K KJ4
set_option maxRecDepth 100000 in
set_option maxHeartbeats 4000000 in
theorem mQ_inFlight_4 {n : Nat} {R : z_Mem → Prop} (hR : y_mQ n R) {Q Post : Int32 → z_Mem → Prop} : ∀ (m : Nat) {x1 : Int32} {x2 : Int32} {x3 : Int32} {M : z_Mem} (S_M : y_S n M) (r_M : R M) (H : P_X12_inFlight_4 (n + 40) Q m x1 x2 x3 M) (K : ∀ x M1, Q x M1 → y_S n M1 → R M1 → Post x M1), P_X12_inFlight_4 (n + 40) Post m x1 x2 x3 M := by
  intro m
  induction m with
  | zero => intros; rename_i H _; exact False.elim H
  | succ m ih =>
    intro x1 x2 x3 M S_M r_M H K
    unfold P_X12_inFlight_4 at H ⊢
    refine And.intro (fun c1 => ?_) (fun c1 => ?_)
    · replace H := H.1 c1
      exact K _ _ H S_M r_M
    · replace H := H.2 c1
      replace H := z_nne (s_1593_40 S_M) H
      refine z_nn_of (s_1593_40 S_M) ?_
      refine And.intro H.1 ?_
      replace H := H.2
      refine And.intro (fun c2 => ?_) (fun c2 => ?_)
      · replace H := H.1 c2
        replace H := z_nne (s_1598_40 S_M) H
        refine z_nn_of (s_1598_40 S_M) ?_
        refine And.intro H.1 ?_
        replace H := H.2
        refine And.intro (fun c3 => ?_) (fun c3 => ?_)
        · replace H := H.1 c3
          exact mQ_inFlight_37 hR S_M r_M H K (fun v0 v1 v2 M1 q S u => ih S u q K)
        · replace H := H.2 c3
          exact mQ_inFlight_36 hR S_M r_M H K (fun v0 v1 v2 M1 q S u => ih S u q K)
      · replace H := H.2 c2
        exact mQ_inFlight_36 hR S_M r_M H K (fun v0 v1 v2 M1 q S u => ih S u q K)
set_option maxRecDepth 100000 in
set_option maxHeartbeats 4000000 in
theorem mQ_inFlight {n : Nat} {R : z_Mem → Prop} (hR : y_mQ n R) {Q Post : Int32 → z_Mem → Prop} {p1 : Int32} {M : z_Mem} (S_M : y_S n M) (r_M : R M) (H : P_X12_inFlight (n + 40) p1 M Q) (K : ∀ x M1, Q x M1 → y_S n M1 → R M1 → Post x M1) : P_X12_inFlight (n + 40) p1 M Post := by
  unfold P_X12_inFlight at H ⊢
  obtain ⟨m, H⟩ := H
  refine ⟨m, ?_⟩
  exact mQ_inFlight_4 hR m S_M r_M H K
set_option maxRecDepth 100000 in
set_option maxHeartbeats 4000000 in
theorem mQ_byCube_11 {n : Nat} {R : z_Mem → Prop} (hR : y_mQ n R) {Q Post : Int32 → z_Mem → Prop} : ∀ (m : Nat) {x1 : Int32} {x2 : Int64} {x4 : Int64} {M : z_Mem} (S_M : y_S n M) (r_M : R M) (H : P_X12_byCube_11 (n + 40) Q m x1 x2 x4 M) (K : ∀ x M1, Q x M1 → y_S n M1 → R M1 → Post x M1), P_X12_byCube_11 (n + 40) Post m x1 x2 x4 M := by
  intro m
  induction m with
  | zero => intros; rename_i H _; exact False.elim H
  | succ m ih =>
    intro x1 x2 x4 M S_M r_M H K
    unfold P_X12_byCube_11 at H ⊢
    refine And.intro (fun c1 => ?_) (fun c1 => ?_)
    · replace H := H.1 c1
      replace H := z_nne (s_1624_40 S_M) H
      refine z_nn_of (s_1624_40 S_M) ?_
      refine And.intro H.1 ?_
      replace H := H.2
      intro x_6 e_x_6
      replace H := H x_6 e_x_6
      intro x_7 e_x_7
      replace H := H x_7 e_x_7
      replace H := z_nne (s_1607_40 S_M) H
      refine z_nn_of (s_1607_40 S_M) ?_
      refine And.intro H.1 ?_
      replace H := H.2
      replace H := z_nne (s_1607_40 S_M) H
      refine z_nn_of (s_1607_40 S_M) ?_
      refine And.intro H.1 ?_
      replace H := H.2
      refine And.intro H.1 ?_
      replace H := H.2
      intro x_15 e_x_15
      replace H := H x_15 e_x_15
      refine And.intro (fun c2 => ?_) (fun c2 => ?_)
      · replace H := H.1 c2
        exact K _ _ H S_M r_M
      · replace H := H.2 c2
        exact K _ _ H S_M r_M
    · replace H := H.2 c1
      intro x_17 e_x_17
      replace H := H x_17 e_x_17
      exact ih S_M r_M H K
set_option maxRecDepth 100000 in
set_option maxHeartbeats 4000000 in
theorem mQ_byCube {n : Nat} {R : z_Mem → Prop} (hR : y_mQ n R) {Q Post : Int32 → z_Mem → Prop} {p1 : Int32} {M : z_Mem} (S_M : y_S n M) (r_M : R M) (H : P_X12_byCube (n + 40) p1 M Q) (K : ∀ x M1, Q x M1 → y_S n M1 → R M1 → Post x M1) : P_X12_byCube (n + 40) p1 M Post := by
  unfold P_X12_byCube at H ⊢
  replace H := z_nne (s_1626_40 S_M) H
  refine z_nn_of (s_1626_40 S_M) ?_
  refine And.intro H.1 ?_
  replace H := H.2
  intro x_21 e_x_21
  replace H := H x_21 e_x_21
  obtain ⟨m, H⟩ := H
  refine ⟨m, ?_⟩
  exact mQ_byCube_11 hR m S_M r_M H K
set_option maxRecDepth 100000 in
set_option maxHeartbeats 4000000 in
theorem mQ_grows_96 {n : Nat} {R : z_Mem → Prop} (hR : y_mQ n R) {Q Post : z_Mem → Prop} : ∀ (m : Nat) {x2 : Int32} {x4 : Int32} {x5 : Int32} {M : z_Mem} (S_M : y_S n M) (r_M : R M) (H : P_X12_grows_96 (n + 40) Q m x2 x4 x5 M) (K : ∀ M1, Q M1 → y_S n M1 → R M1 → Post M1), P_X12_grows_96 (n + 40) Post m x2 x4 x5 M := by
  intro m
  induction m with
  | zero => intros; rename_i H _; exact False.elim H
  | succ m ih =>
    intro x2 x4 x5 M S_M r_M H K
    unfold P_X12_grows_96 at H ⊢
    refine And.intro (fun c1 => ?_) (fun c1 => ?_)
    · replace H := H.1 c1
      replace H := z_nne (s_1612_40 S_M) H
      refine z_nn_of (s_1612_40 S_M) ?_
      refine And.intro H.1 ?_
      replace H := H.2
      refine mQ_max hR S_M r_M H (fun x_6 M_6 H S_M_6 r_M_6 => ?_)
      replace H := z_nne (s_1607_40 S_M) H
      refine z_nn_of (s_1607_40 S_M) ?_
      refine And.intro H.1 ?_
      replace H := H.2
      intro M_9 e_M_9
      replace H := H M_9 e_M_9
      have S_M_9 : y_S n M_9 := by rw [e_M_9]; exact S_sai S_M_6
      have r_M_9 : R M_9 := by rw [e_M_9]; exact hR.1 _ 84 _ _ (by decide) (by decide) (by decide) r_M_6
      exact K _ H S_M_9 r_M_9
    · replace H := H.2 c1
      replace H := z_nne (s_1621_40 S_M) H
      refine z_nn_of (s_1621_40 S_M) ?_
      refine And.intro H.1 ?_
      replace H := H.2
      refine mQ_max hR S_M r_M H (fun x_13 M_13 H S_M_13 r_M_13 => ?_)
      intro x_14 e_x_14
      replace H := H x_14 e_x_14
      exact ih S_M_13 r_M_13 H K
set_option maxRecDepth 100000 in
set_option maxHeartbeats 4000000 in
theorem mQ_grows {n : Nat} {R : z_Mem → Prop} (hR : y_mQ n R) {Q Post : z_Mem → Prop} {p1 : Int32} {M : z_Mem} (S_M : y_S n M) (r_M : R M) (H : P_X12_grows (n + 40) p1 M Q) (K : ∀ M1, Q M1 → y_S n M1 → R M1 → Post M1) : P_X12_grows (n + 40) p1 M Post := by
  unfold P_X12_grows at H ⊢
  replace H := z_nne (s_1593_40 S_M) H
  refine z_nn_of (s_1593_40 S_M) ?_
  refine And.intro H.1 ?_
  replace H := H.2
  intro x_18 e_x_18
  replace H := H x_18 e_x_18
  replace H := z_nne (s_1620_40 S_M) H
  refine z_nn_of (s_1620_40 S_M) ?_
  refine And.intro H.1 ?_
  replace H := H.2
  refine And.intro H.1 ?_
  replace H := H.2
  intro M_23 e_M_23
  replace H := H M_23 e_M_23
  have S_M_23 : y_S n M_23 := by rw [e_M_23]; exact S_sai S_M
  have r_M_23 : R M_23 := by rw [e_M_23]; exact hR.1 _ 97 _ _ (by decide) (by decide) (by decide) r_M
  replace H := z_nne (s_1609_40 S_M_23) H
  refine z_nn_of (s_1609_40 S_M_23) ?_
  refine And.intro H.1 ?_
  replace H := H.2
  refine And.intro (fun c1 => ?_) (fun c1 => ?_)
  · replace H := H.1 c1
    replace H := z_nne (s_1620_40 S_M_23) H
    refine z_nn_of (s_1620_40 S_M_23) ?_
    refine And.intro H.1 ?_
    replace H := H.2
    replace H := z_nne (s_1605_40 S_M_23) H
    refine z_nn_of (s_1605_40 S_M_23) ?_
    refine And.intro H.1 ?_
    replace H := H.2
    replace H := z_nne (s_1594_40 S_M_23) H
    refine z_nn_of (s_1594_40 S_M_23) ?_
    refine And.intro H.1 ?_
    replace H := H.2
    refine mQ_max hR S_M_23 r_M_23 H (fun x_67 M_67 H S_M_67 r_M_67 => ?_)
    refine And.intro H.1 ?_
    replace H := H.2
    intro x_69 e_x_69
    replace H := H x_69 e_x_69
    replace H := z_nne (s_1622_40 S_M_67) H
    refine z_nn_of (s_1622_40 S_M_67) ?_
    refine And.intro H.1 ?_
    replace H := H.2
    replace H := z_nne (s_1621_40 S_M_67) H
    refine z_nn_of (s_1621_40 S_M_67) ?_
    refine And.intro H.1 ?_
    replace H := H.2
    intro M_76 e_M_76
    replace H := H M_76 e_M_76
    have S_M_76 : y_S n M_76 := by rw [e_M_76]; exact S_sai S_M_67
    have r_M_76 : R M_76 := by rw [e_M_76]; exact hR.1 _ 98 _ _ (by decide) (by decide) (by decide) r_M_67
    replace H := z_nne (s_1622_40 S_M_76) H
    refine z_nn_of (s_1622_40 S_M_76) ?_
    refine And.intro H.1 ?_
    replace H := H.2
    refine And.intro H.1 ?_
    replace H := H.2
    intro M_81 e_M_81
    replace H := H M_81 e_M_81
    have S_M_81 : y_S n M_81 := by rw [e_M_81]; exact S_sai S_M_76
    have r_M_81 : R M_81 := by rw [e_M_81]; exact hR.1 _ 99 _ _ (by decide) (by decide) (by decide) r_M_76
    obtain ⟨m, H⟩ := H
    refine ⟨m, ?_⟩
    exact mQ_grows_96 hR m S_M_81 r_M_81 H K
  · replace H := H.2 c1
    replace H := z_nne (s_1607_40 S_M_23) H
    refine z_nn_of (s_1607_40 S_M_23) ?_
    refine And.intro H.1 ?_
    replace H := H.2
    replace H := z_nne (s_1608_40 S_M_23) H
    refine z_nn_of (s_1608_40 S_M_23) ?_
    refine And.intro H.1 ?_
    replace H := H.2
    refine And.intro (fun c2 => ?_) (fun c2 => ?_)
    · replace H := H.1 c2
      replace H := z_nne (s_1607_40 S_M_23) H
      refine z_nn_of (s_1607_40 S_M_23) ?_
      refine And.intro H.1 ?_
      replace H := H.2
      replace H := z_nne (s_1609_40 S_M_23) H
      refine z_nn_of (s_1609_40 S_M_23) ?_
      refine And.intro H.1 ?_
      replace H := H.2
      refine And.intro (fun c3 => ?_) (fun c3 => ?_)
      · replace H := H.1 c3
        replace H := z_nne (s_1607_40 S_M_23) H
        refine z_nn_of (s_1607_40 S_M_23) ?_
        refine And.intro H.1 ?_
        replace H := H.2
        refine And.intro H.1 ?_
        replace H := H.2
        refine mQ_max hR S_M_23 r_M_23 H (fun x_49 M_49 H S_M_49 r_M_49 => ?_)
        refine And.intro H.1 ?_
        replace H := H.2
        intro M_51 e_M_51
        replace H := H M_51 e_M_51
        have S_M_51 : y_S n M_51 := by rw [e_M_51]; exact S_sai S_M_49
        have r_M_51 : R M_51 := by rw [e_M_51]; exact hR.1 _ 84 _ _ (by decide) (by decide) (by decide) r_M_49
        exact K _ H S_M_51 r_M_51
      · replace H := H.2 c3
        refine mQ_byCube hR S_M_23 r_M_23 H (fun x_42 M_42 H S_M_42 r_M_42 => ?_)
        refine And.intro H.1 ?_
        replace H := H.2
        intro M_44 e_M_44
        replace H := H M_44 e_M_44
        have S_M_44 : y_S n M_44 := by rw [e_M_44]; exact S_sai S_M_42
        have r_M_44 : R M_44 := by rw [e_M_44]; exact hR.1 _ 84 _ _ (by decide) (by decide) (by decide) r_M_42
        exact K _ H S_M_44 r_M_44
    · replace H := H.2 c2
      replace H := z_nne (s_1607_40 S_M_23) H
      refine z_nn_of (s_1607_40 S_M_23) ?_
      refine And.intro H.1 ?_
      replace H := H.2
      refine And.intro H.1 ?_
      replace H := H.2
      intro M_56 e_M_56
      replace H := H M_56 e_M_56
      have S_M_56 : y_S n M_56 := by rw [e_M_56]; exact S_sai S_M_23
      have r_M_56 : R M_56 := by rw [e_M_56]; exact hR.1 _ 84 _ _ (by decide) (by decide) (by decide) r_M_23
      exact K _ H S_M_56 r_M_56
set_option maxRecDepth 100000 in
set_option maxHeartbeats 4000000 in
theorem mQ_harms_129 {n : Nat} {R : z_Mem → Prop} (hR : y_mQ n R) {Q Post : z_Mem → Prop} {x1 : Int32} {t1 : Int32} {t2 : Int32} {t3 : Int32} {t0 : Nat} {o_t0 : Option Nat} {M : z_Mem} (h0_t0 : 41 ≤ t0) (h1_t0 : t0 < 107) (h2_t0 : t0 ≠ 92) (ho_t0 : o_t0 = some (n + t0)) (S_M : y_S n M) (r_M : R M) (H : P_X12_harms_129 (n + 40) Q x1 o_t0 t1 t2 t3 M) (K : ∀ M1, Q M1 → y_S n M1 → R M1 → Post M1) : P_X12_harms_129 (n + 40) Post x1 o_t0 t1 t2 t3 M := by
  subst ho_t0
  unfold P_X12_harms_129 at H ⊢
  refine mQ_max hR S_M r_M H (fun x_1 M_1 H S_M_1 r_M_1 => ?_)
  replace H := z_nne rfl H
  refine z_nn_of rfl ?_
  refine And.intro H.1 ?_
  replace H := H.2
  intro M_4 e_M_4
  replace H := H M_4 e_M_4
  have S_M_4 : y_S n M_4 := by rw [e_M_4]; exact S_sai S_M_1
  have r_M_4 : R M_4 := by rw [e_M_4]; exact hR.1 _ t0 _ _ h0_t0 h1_t0 h2_t0 r_M_1
  replace H := z_nne (s_1607_40 S_M_4) H
  refine z_nn_of (s_1607_40 S_M_4) ?_
  refine And.intro H.1 ?_
  replace H := H.2
  replace H := z_nne (s_1608_40 S_M_4) H
  refine z_nn_of (s_1608_40 S_M_4) ?_
  refine And.intro H.1 ?_
  replace H := H.2
  intro M_11 e_M_11
  replace H := H M_11 e_M_11
  have S_M_11 : y_S n M_11 := by rw [e_M_11]; exact S_sai S_M_4
  have r_M_11 : R M_11 := by rw [e_M_11]; exact hR.1 _ 85 _ _ (by decide) (by decide) (by decide) r_M_4
  exact K _ H S_M_11 r_M_11
set_option maxRecDepth 100000 in
set_option maxHeartbeats 4000000 in
theorem mQ_harms_55 {n : Nat} {R : z_Mem → Prop} (hR : y_mQ n R) {Q Post : z_Mem → Prop} {x1 : Int32} {t1 : Int32} {t2 : Int32} {t0 : Nat} {o_t0 : Option Nat} {M : z_Mem} (h0_t0 : 41 ≤ t0) (h1_t0 : t0 < 107) (h2_t0 : t0 ≠ 92) (ho_t0 : o_t0 = some (n + t0)) (S_M : y_S n M) (r_M : R M) (H : P_X12_harms_55 (n + 40) Q x1 o_t0 t1 t2 M) (K : ∀ M1, Q M1 → y_S n M1 → R M1 → Post M1) : P_X12_harms_55 (n + 40) Post x1 o_t0 t1 t2 M := by
  subst ho_t0
  unfold P_X12_harms_55 at H ⊢
  replace H := z_nne rfl H
  refine z_nn_of rfl ?_
  refine And.intro H.1 ?_
  replace H := H.2
  intro M_14 e_M_14
  replace H := H M_14 e_M_14
  have S_M_14 : y_S n M_14 := by rw [e_M_14]; exact S_sai S_M
  have r_M_14 : R M_14 := by rw [e_M_14]; exact hR.1 _ t0 _ _ h0_t0 h1_t0 h2_t0 r_M
  replace H := z_nne (s_1607_40 S_M_14) H
  refine z_nn_of (s_1607_40 S_M_14) ?_
  refine And.intro H.1 ?_
  replace H := H.2
  replace H := z_nne (s_1626_40 S_M_14) H
  refine z_nn_of (s_1626_40 S_M_14) ?_
  refine And.intro H.1 ?_
  replace H := H.2
  intro M_21 e_M_21
  replace H := H M_21 e_M_21
  have S_M_21 : y_S n M_21 := by rw [e_M_21]; exact S_sai S_M_14
  have r_M_21 : R M_21 := by rw [e_M_21]; exact hR.1 _ 103 _ _ (by decide) (by decide) (by decide) r_M_14
  replace H := z_nne (s_1608_40 S_M_21) H
  refine z_nn_of (s_1608_40 S_M_21) ?_
  refine And.intro H.1 ?_
  replace H := H.2
  replace H := z_nne (s_1627_40 S_M_21) H
  refine z_nn_of (s_1627_40 S_M_21) ?_
  refine And.intro H.1 ?_
  replace H := H.2
  intro M_28 e_M_28
  replace H := H M_28 e_M_28
  have S_M_28 : y_S n M_28 := by rw [e_M_28]; exact S_sai S_M_21
  have r_M_28 : R M_28 := by rw [e_M_28]; exact hR.1 _ 104 _ _ (by decide) (by decide) (by decide) r_M_21
  replace H := z_nne (s_1609_40 S_M_28) H
  refine z_nn_of (s_1609_40 S_M_28) ?_
  refine And.intro H.1 ?_
  replace H := H.2
  refine And.intro (fun c1 => ?_) (fun c1 => ?_)
  · replace H := H.1 c1
    exact K _ H S_M_28 r_M_28
  · replace H := H.2 c1
    replace H := z_nne (s_1609_40 S_M_28) H
    refine z_nn_of (s_1609_40 S_M_28) ?_
    refine And.intro H.1 ?_
    replace H := H.2
    refine And.intro (fun c2 => ?_) (fun c2 => ?_)
    · replace H := H.1 c2
      replace H := z_nne (s_1607_40 S_M_28) H
      refine z_nn_of (s_1607_40 S_M_28) ?_
      refine And.intro H.1 ?_
      replace H := H.2
      exact mQ_harms_129 hR (by decide) (by decide) (by decide) (s_1607_40 S_M_28) S_M_28 r_M_28 H K
    · replace H := H.2 c2
      replace H := z_nne (s_1607_40 S_M_28) H
      refine z_nn_of (s_1607_40 S_M_28) ?_
      refine And.intro H.1 ?_
      replace H := H.2
      exact mQ_harms_129 hR (by decide) (by decide) (by decide) (s_1607_40 S_M_28) S_M_28 r_M_28 H K
set_option maxRecDepth 100000 in
set_option maxHeartbeats 4000000 in
theorem mQ_harms {n : Nat} {R : z_Mem → Prop} (hR : y_mQ n R) {Q Post : z_Mem → Prop} {p1 : Int32} {p2 : Int32} {p3 : Int32} {M : z_Mem} (S_M : y_S n M) (r_M : R M) (H : P_X12_harms (n + 40) p1 p2 p3 M Q) (K : ∀ M1, Q M1 → y_S n M1 → R M1 → Post M1) : P_X12_harms (n + 40) p1 p2 p3 M Post := by
  unfold P_X12_harms at H ⊢
  replace H := z_nne (s_1623_40 S_M) H
  refine z_nn_of (s_1623_40 S_M) ?_
  refine And.intro H.1 ?_
  replace H := H.2
  refine And.intro (fun c1 => ?_) (fun c1 => ?_)
  · replace H := H.1 c1
    replace H := z_nne (s_1629_40 S_M) H
    refine z_nn_of (s_1629_40 S_M) ?_
    refine And.intro H.1 ?_
    replace H := H.2
    refine And.intro H.1 ?_
    replace H := H.2
    intro M_52 e_M_52
    replace H := H M_52 e_M_52
    have S_M_52 : y_S n M_52 := by rw [e_M_52]; exact S_sai S_M
    have r_M_52 : R M_52 := by rw [e_M_52]; exact hR.1 _ 106 _ _ (by decide) (by decide) (by decide) r_M
    replace H := z_nne (s_1623_40 S_M_52) H
    refine z_nn_of (s_1623_40 S_M_52) ?_
    refine And.intro H.1 ?_
    replace H := H.2
    intro M_57 e_M_57
    replace H := H M_57 e_M_57
    have S_M_57 : y_S n M_57 := by rw [e_M_57]; exact S_sai S_M_52
    have r_M_57 : R M_57 := by rw [e_M_57]; exact hR.1 _ 100 _ _ (by decide) (by decide) (by decide) r_M_52
    replace H := z_nne (s_1624_40 S_M_57) H
    refine z_nn_of (s_1624_40 S_M_57) ?_
    refine And.intro H.1 ?_
    replace H := H.2
    intro M_62 e_M_62
    replace H := H M_62 e_M_62
    have S_M_62 : y_S n M_62 := by rw [e_M_62]; exact S_sai S_M_57
    have r_M_62 : R M_62 := by rw [e_M_62]; exact hR.1 _ 101 _ _ (by decide) (by decide) (by decide) r_M_57
    refine And.intro (fun c2 => ?_) (fun c2 => ?_)
    · replace H := H.1 c2
      exact mQ_harms_55 hR (by decide) (by decide) (by decide) (s_1625_40 S_M_62) S_M_62 r_M_62 H K
    · replace H := H.2 c2
      exact mQ_harms_55 hR (by decide) (by decide) (by decide) (s_1625_40 S_M_62) S_M_62 r_M_62 H K
  · replace H := H.2 c1
    exact K _ H S_M r_M
set_option maxRecDepth 100000 in
set_option maxHeartbeats 4000000 in
theorem mQ_lands_9 {n : Nat} {R : z_Mem → Prop} (hR : y_mQ n R) {Q Post : z_Mem → Prop} : ∀ (m : Nat) {x1 : Int32} {x3 : Int32} {M : z_Mem} (S_M : y_S n M) (r_M : R M) (H : P_X12_lands_9 (n + 40) Q m x1 x3 M) (K : ∀ M1, Q M1 → y_S n M1 → R M1 → Post M1), P_X12_lands_9 (n + 40) Post m x1 x3 M := by
  intro m
  induction m with
  | zero => intros; rename_i H _; exact False.elim H
  | succ m ih =>
    intro x1 x3 M S_M r_M H K
    unfold P_X12_lands_9 at H ⊢
    replace H := z_nne (s_1597_40 S_M) H
    refine z_nn_of (s_1597_40 S_M) ?_
    refine And.intro H.1 ?_
    replace H := H.2
    refine And.intro (fun c1 => ?_) (fun c1 => ?_)
    · replace H := H.1 c1
      exact K _ H S_M r_M
    · replace H := H.2 c1
      replace H := z_nne (s_1595_40 S_M) H
      refine z_nn_of (s_1595_40 S_M) ?_
      refine And.intro H.1 ?_
      replace H := H.2
      replace H := z_nne (s_1596_40 S_M) H
      refine z_nn_of (s_1596_40 S_M) ?_
      refine And.intro H.1 ?_
      replace H := H.2
      replace H := z_nne (s_1592_40 S_M) H
      refine z_nn_of (s_1592_40 S_M) ?_
      refine And.intro H.1 ?_
      replace H := H.2
      refine And.intro H.1 ?_
      replace H := H.2
      intro M_15 e_M_15
      replace H := H M_15 e_M_15
      have S_M_15 : y_S n M_15 := by rw [e_M_15]; exact S_sai S_M
      have r_M_15 : R M_15 := by rw [e_M_15]; exact hR.1 _ 70 _ _ (by decide) (by decide) (by decide) r_M
      intro x_16 e_x_16
      replace H := H x_16 e_x_16
      exact ih S_M_15 r_M_15 H K
set_option maxRecDepth 100000 in
set_option maxHeartbeats 4000000 in
theorem mQ_lands {n : Nat} {R : z_Mem → Prop} (hR : y_mQ n R) {Q Post : z_Mem → Prop} {p1 : Int32} {p2 : Int32} {M : z_Mem} (S_M : y_S n M) (r_M : R M) (H : P_X12_lands (n + 40) p1 p2 M Q) (K : ∀ M1, Q M1 → y_S n M1 → R M1 → Post M1) : P_X12_lands (n + 40) p1 p2 M Post := by
  unfold P_X12_lands at H ⊢
  replace H := z_nne (s_1598_40 S_M) H
  refine z_nn_of (s_1598_40 S_M) ?_
  refine And.intro H.1 ?_
  replace H := H.2
  intro M_20 e_M_20
  replace H := H M_20 e_M_20
  have S_M_20 : y_S n M_20 := by rw [e_M_20]; exact S_sai S_M
  have r_M_20 : R M_20 := by rw [e_M_20]; exact hR.1 _ 76 _ _ (by decide) (by decide) (by decide) r_M
  obtain ⟨m, H⟩ := H
  refine ⟨m, ?_⟩
  exact mQ_lands_9 hR m S_M_20 r_M_20 H K
set_option maxRecDepth 100000 in
set_option maxHeartbeats 4000000 in
theorem mQ_loses {n : Nat} {R : z_Mem → Prop} (hR : y_mQ n R) {Q Post : z_Mem → Prop} {p1 : Int32} {M : z_Mem} (S_M : y_S n M) (r_M : R M) (H : P_X12_loses (n + 40) p1 M Q) (K : ∀ M1, Q M1 → y_S n M1 → R M1 → Post M1) : P_X12_loses (n + 40) p1 M Post := by
  unfold P_X12_loses at H ⊢
  refine mQ_lands hR S_M r_M H (fun M_1 H S_M_1 r_M_1 => ?_)
  replace H := z_nne (s_1629_40 S_M_1) H
  refine z_nn_of (s_1629_40 S_M_1) ?_
  refine And.intro H.1 ?_
  replace H := H.2
  refine And.intro H.1 ?_
  replace H := H.2
  intro M_6 e_M_6
  replace H := H M_6 e_M_6
  have S_M_6 : y_S n M_6 := by rw [e_M_6]; exact S_sai S_M_1
  have r_M_6 : R M_6 := by rw [e_M_6]; exact hR.1 _ 106 _ _ (by decide) (by decide) (by decide) r_M_1
  replace H := z_nne (s_1593_40 S_M_6) H
  refine z_nn_of (s_1593_40 S_M_6) ?_
  refine And.intro H.1 ?_
  replace H := H.2
  refine mQ_harms hR S_M_6 r_M_6 H (fun M_10 H S_M_10 r_M_10 => ?_)
  exact K _ H S_M_10 r_M_10
set_option maxRecDepth 100000 in
set_option maxHeartbeats 4000000 in
theorem mQ_losesByOrder_51 {n : Nat} {R : z_Mem → Prop} (hR : y_mQ n R) {Q Post : z_Mem → Prop} {QJ2 PJ2 : Int32 → Int32 → z_Mem → Prop} {x1 : Int32} {x2 : Int32} {M : z_Mem} (S_M : y_S n M) (r_M : R M) (H : P_X12_losesByOrder_51 (n + 40) Q QJ2 x1 x2 M) (K : ∀ M1, Q M1 → y_S n M1 → R M1 → Post M1) (KJ2 : ∀ v0 v1 M1, QJ2 v0 v1 M1 → y_S n M1 → R M1 → PJ2 v0 v1 M1) : P_X12_losesByOrder_51 (n + 40) Post PJ2 x1 x2 M := by
  unfold P_X12_losesByOrder_51 at H ⊢
  intro x_1 e_x_1
  replace H := H x_1 e_x_1
  exact KJ2 _ _ _ H S_M r_M
set_option maxRecDepth 100000 in
set_option maxHeartbeats 4000000 in
theorem mQ_losesByOrder_2 {n : Nat} {R : z_Mem → Prop} (hR : y_mQ n R) {Q Post : z_Mem → Prop} : ∀ (m : Nat) {x1 : Int32} {x2 : Int32} {M : z_Mem} (S_M : y_S n M) (r_M : R M) (H : P_X12_losesByOrder_2 (n + 40) Q m x1 x2 M) (K : ∀ M1, Q M1 → y_S n M1 → R M1 → Post M1), P_X12_losesByOrder_2 (n + 40) Post m x1 x2 M := by
  intro m
  induction m with
  | zero => intros; rename_i H _; exact False.elim H
  | succ m ih =>
    intro x1 x2 M S_M r_M H K
    unfold P_X12_losesByOrder_2 at H ⊢
    refine And.intro (fun c1 => ?_) (fun c1 => ?_)
    · replace H := H.1 c1
      exact K _ H S_M r_M
    · replace H := H.2 c1
      replace H := z_nne (s_1593_40 S_M) H
      refine z_nn_of (s_1593_40 S_M) ?_
      refine And.intro H.1 ?_
      replace H := H.2
      refine And.intro (fun c2 => ?_) (fun c2 => ?_)
      · replace H := H.1 c2
        replace H := z_nne (s_1598_40 S_M) H
        refine z_nn_of (s_1598_40 S_M) ?_
        refine And.intro H.1 ?_
        replace H := H.2
        refine And.intro (fun c3 => ?_) (fun c3 => ?_)
        · replace H := H.1 c3
          replace H := z_nne (s_1617_40 S_M) H
          refine z_nn_of (s_1617_40 S_M) ?_
          refine And.intro H.1 ?_
          replace H := H.2
          replace H := z_nne (s_1604_40 S_M) H
          refine z_nn_of (s_1604_40 S_M) ?_
          refine And.intro H.1 ?_
          replace H := H.2
          refine And.intro (fun c4 => ?_) (fun c4 => ?_)
          · replace H := H.1 c4
            exact mQ_losesByOrder_51 hR S_M r_M H K (fun v0 v1 M1 q S u => ih S u q K)
          · replace H := H.2 c4
            refine mQ_loses hR S_M r_M H (fun M_19 H S_M_19 r_M_19 => ?_)
            exact mQ_losesByOrder_51 hR S_M_19 r_M_19 H K (fun v0 v1 M1 q S u => ih S u q K)
        · replace H := H.2 c3
          exact mQ_losesByOrder_51 hR S_M r_M H K (fun v0 v1 M1 q S u => ih S u q K)
      · replace H := H.2 c2
        exact mQ_losesByOrder_51 hR S_M r_M H K (fun v0 v1 M1 q S u => ih S u q K)
set_option maxRecDepth 100000 in
set_option maxHeartbeats 4000000 in
theorem mQ_losesByOrder {n : Nat} {R : z_Mem → Prop} (hR : y_mQ n R) {Q Post : z_Mem → Prop} {p1 : Int32} {M : z_Mem} (S_M : y_S n M) (r_M : R M) (H : P_X12_losesByOrder (n + 40) p1 M Q) (K : ∀ M1, Q M1 → y_S n M1 → R M1 → Post M1) : P_X12_losesByOrder (n + 40) p1 M Post := by
  unfold P_X12_losesByOrder at H ⊢
  obtain ⟨m, H⟩ := H
  refine ⟨m, ?_⟩
  exact mQ_losesByOrder_2 hR m S_M r_M H K
set_option maxRecDepth 100000 in
set_option maxHeartbeats 4000000 in
theorem mQ_losesByTime_93 {n : Nat} {R : z_Mem → Prop} (hR : y_mQ n R) {Q Post : z_Mem → Prop} {QJ2 PJ2 : Int32 → Int32 → z_Mem → Prop} {x1 : Int32} {x2 : Int32} {M : z_Mem} (S_M : y_S n M) (r_M : R M) (H : P_X12_losesByTime_93 (n + 40) Q QJ2 x1 x2 M) (K : ∀ M1, Q M1 → y_S n M1 → R M1 → Post M1) (KJ2 : ∀ v0 v1 M1, QJ2 v0 v1 M1 → y_S n M1 → R M1 → PJ2 v0 v1 M1) : P_X12_losesByTime_93 (n + 40) Post PJ2 x1 x2 M := by
  unfold P_X12_losesByTime_93 at H ⊢
  intro x_1 e_x_1
  replace H := H x_1 e_x_1
  exact KJ2 _ _ _ H S_M r_M
set_option maxRecDepth 100000 in
set_option maxHeartbeats 4000000 in
theorem mQ_losesByTime_2 {n : Nat} {R : z_Mem → Prop} (hR : y_mQ n R) {Q Post : z_Mem → Prop} : ∀ (m : Nat) {x1 : Int32} {x2 : Int32} {M : z_Mem} (S_M : y_S n M) (r_M : R M) (H : P_X12_losesByTime_2 (n + 40) Q m x1 x2 M) (K : ∀ M1, Q M1 → y_S n M1 → R M1 → Post M1), P_X12_losesByTime_2 (n + 40) Post m x1 x2 M := by
  intro m
  induction m with
  | zero => intros; rename_i H _; exact False.elim H
  | succ m ih =>
    intro x1 x2 M S_M r_M H K
    unfold P_X12_losesByTime_2 at H ⊢
    refine And.intro (fun c1 => ?_) (fun c1 => ?_)
    · replace H := H.1 c1
      exact K _ H S_M r_M
    · replace H := H.2 c1
      replace H := z_nne (s_1610_40 S_M) H
      refine z_nn_of (s_1610_40 S_M) ?_
      refine And.intro H.1 ?_
      replace H := H.2
      replace H := z_nne (s_1613_40 S_M) H
      refine z_nn_of (s_1613_40 S_M) ?_
      refine And.intro H.1 ?_
      replace H := H.2
      refine mQ_max hR S_M r_M H (fun x_10 M_10 H S_M_10 r_M_10 => ?_)
      refine mQ_max hR S_M_10 r_M_10 H (fun x_11 M_11 H S_M_11 r_M_11 => ?_)
      replace H := z_nne (s_1593_40 S_M_11) H
      refine z_nn_of (s_1593_40 S_M_11) ?_
      refine And.intro H.1 ?_
      replace H := H.2
      refine And.intro (fun c2 => ?_) (fun c2 => ?_)
      · replace H := H.1 c2
        replace H := z_nne (s_1598_40 S_M_11) H
        refine z_nn_of (s_1598_40 S_M_11) ?_
        refine And.intro H.1 ?_
        replace H := H.2
        refine And.intro (fun c3 => ?_) (fun c3 => ?_)
        · replace H := H.1 c3
          replace H := z_nne (s_1617_40 S_M_11) H
          refine z_nn_of (s_1617_40 S_M_11) ?_
          refine And.intro H.1 ?_
          replace H := H.2
          replace H := z_nne (s_1604_40 S_M_11) H
          refine z_nn_of (s_1604_40 S_M_11) ?_
          refine And.intro H.1 ?_
          replace H := H.2
          refine And.intro (fun c4 => ?_) (fun c4 => ?_)
          · replace H := H.1 c4
            exact mQ_losesByTime_93 hR S_M_11 r_M_11 H K (fun v0 v1 M1 q S u => ih S u q K)
          · replace H := H.2 c4
            replace H := z_nne (s_1594_40 S_M_11) H
            refine z_nn_of (s_1594_40 S_M_11) ?_
            refine And.intro H.1 ?_
            replace H := H.2
            refine And.intro (fun c5 => ?_) (fun c5 => ?_)
            · replace H := H.1 c5
              exact mQ_losesByTime_93 hR S_M_11 r_M_11 H K (fun v0 v1 M1 q S u => ih S u q K)
            · replace H := H.2 c5
              refine mQ_loses hR S_M_11 r_M_11 H (fun M_32 H S_M_32 r_M_32 => ?_)
              exact mQ_losesByTime_93 hR S_M_32 r_M_32 H K (fun v0 v1 M1 q S u => ih S u q K)
        · replace H := H.2 c3
          exact mQ_losesByTime_93 hR S_M_11 r_M_11 H K (fun v0 v1 M1 q S u => ih S u q K)
      · replace H := H.2 c2
        exact mQ_losesByTime_93 hR S_M_11 r_M_11 H K (fun v0 v1 M1 q S u => ih S u q K)
set_option maxRecDepth 100000 in
set_option maxHeartbeats 4000000 in
theorem mQ_losesByTime {n : Nat} {R : z_Mem → Prop} (hR : y_mQ n R) {Q Post : z_Mem → Prop} {p1 : Int32} {M : z_Mem} (S_M : y_S n M) (r_M : R M) (H : P_X12_losesByTime (n + 40) p1 M Q) (K : ∀ M1, Q M1 → y_S n M1 → R M1 → Post M1) : P_X12_losesByTime (n + 40) p1 M Post := by
  unfold P_X12_losesByTime at H ⊢
  obtain ⟨m, H⟩ := H
  refine ⟨m, ?_⟩
  exact mQ_losesByTime_2 hR m S_M r_M H K
set_option maxRecDepth 100000 in
set_option maxHeartbeats 4000000 in
theorem mQ_hearsOf_50 {n : Nat} {R : z_Mem → Prop} (hR : y_mQ n R) {Q Post : z_Mem → Prop} : ∀ (m : Nat) {x1 : Int32} {x2 : Int32} {x3 : Int32} {M : z_Mem} (S_M : y_S n M) (r_M : R M) (H : P_X12_hearsOf_50 (n + 40) Q m x1 x2 x3 M) (K : ∀ M1, Q M1 → y_S n M1 → R M1 → Post M1), P_X12_hearsOf_50 (n + 40) Post m x1 x2 x3 M := by
  intro m
  induction m with
  | zero => intros; rename_i H _; exact False.elim H
  | succ m ih =>
    intro x1 x2 x3 M S_M r_M H K
    unfold P_X12_hearsOf_50 at H ⊢
    replace H := z_nne (s_1597_40 S_M) H
    refine z_nn_of (s_1597_40 S_M) ?_
    refine And.intro H.1 ?_
    replace H := H.2
    refine And.intro (fun c1 => ?_) (fun c1 => ?_)
    · replace H := H.1 c1
      replace H := z_nne (s_1598_40 S_M) H
      refine z_nn_of (s_1598_40 S_M) ?_
      refine And.intro H.1 ?_
      replace H := H.2
      refine And.intro (fun c2 => ?_) (fun c2 => ?_)
      · replace H := H.1 c2
        refine mQ_lands hR S_M r_M H (fun M_48 H S_M_48 r_M_48 => ?_)
        refine mQ_grows hR S_M_48 r_M_48 H (fun M_49 H S_M_49 r_M_49 => ?_)
        exact K _ H S_M_49 r_M_49
      · replace H := H.2 c2
        replace H := z_nne (s_1598_40 S_M) H
        refine z_nn_of (s_1598_40 S_M) ?_
        refine And.intro H.1 ?_
        replace H := H.2
        intro M_12 e_M_12
        replace H := H M_12 e_M_12
        have S_M_12 : y_S n M_12 := by rw [e_M_12]; exact S_sai S_M
        have r_M_12 : R M_12 := by rw [e_M_12]; exact hR.1 _ 76 _ _ (by decide) (by decide) (by decide) r_M
        replace H := z_nne (s_1629_40 S_M_12) H
        refine z_nn_of (s_1629_40 S_M_12) ?_
        refine And.intro H.1 ?_
        replace H := H.2
        refine And.intro H.1 ?_
        replace H := H.2
        intro M_17 e_M_17
        replace H := H M_17 e_M_17
        have S_M_17 : y_S n M_17 := by rw [e_M_17]; exact S_sai S_M_12
        have r_M_17 : R M_17 := by rw [e_M_17]; exact hR.1 _ 106 _ _ (by decide) (by decide) (by decide) r_M_12
        replace H := z_nne (s_1625_40 S_M_17) H
        refine z_nn_of (s_1625_40 S_M_17) ?_
        refine And.intro H.1 ?_
        replace H := H.2
        refine And.intro (fun c3 => ?_) (fun c3 => ?_)
        · replace H := H.1 c3
          replace H := z_nne (s_1625_40 S_M_17) H
          refine z_nn_of (s_1625_40 S_M_17) ?_
          refine And.intro H.1 ?_
          replace H := H.2
          intro M_25 e_M_25
          replace H := H M_25 e_M_25
          have S_M_25 : y_S n M_25 := by rw [e_M_25]; exact S_sai S_M_17
          have r_M_25 : R M_25 := by rw [e_M_25]; exact hR.1 _ 102 _ _ (by decide) (by decide) (by decide) r_M_17
          replace H := z_nne (s_1607_40 S_M_25) H
          refine z_nn_of (s_1607_40 S_M_25) ?_
          refine And.intro H.1 ?_
          replace H := H.2
          replace H := z_nne (s_1626_40 S_M_25) H
          refine z_nn_of (s_1626_40 S_M_25) ?_
          refine And.intro H.1 ?_
          replace H := H.2
          refine mQ_max hR S_M_25 r_M_25 H (fun x_33 M_33 H S_M_33 r_M_33 => ?_)
          replace H := z_nne (s_1607_40 S_M_25) H
          refine z_nn_of (s_1607_40 S_M_25) ?_
          refine And.intro H.1 ?_
          replace H := H.2
          intro M_36 e_M_36
          replace H := H M_36 e_M_36
          have S_M_36 : y_S n M_36 := by rw [e_M_36]; exact S_sai S_M_33
          have r_M_36 : R M_36 := by rw [e_M_36]; exact hR.1 _ 84 _ _ (by decide) (by decide) (by decide) r_M_33
          replace H := z_nne (s_1608_40 S_M_36) H
          refine z_nn_of (s_1608_40 S_M_36) ?_
          refine And.intro H.1 ?_
          replace H := H.2
          replace H := z_nne (s_1627_40 S_M_36) H
          refine z_nn_of (s_1627_40 S_M_36) ?_
          refine And.intro H.1 ?_
          replace H := H.2
          refine mQ_max hR S_M_36 r_M_36 H (fun x_44 M_44 H S_M_44 r_M_44 => ?_)
          replace H := z_nne (s_1608_40 S_M_36) H
          refine z_nn_of (s_1608_40 S_M_36) ?_
          refine And.intro H.1 ?_
          replace H := H.2
          intro M_47 e_M_47
          replace H := H M_47 e_M_47
          have S_M_47 : y_S n M_47 := by rw [e_M_47]; exact S_sai S_M_44
          have r_M_47 : R M_47 := by rw [e_M_47]; exact hR.1 _ 85 _ _ (by decide) (by decide) (by decide) r_M_44
          exact K _ H S_M_47 r_M_47
        · replace H := H.2 c3
          exact K _ H S_M_17 r_M_17
    · replace H := H.2 c1
      replace H := z_nne (s_1595_40 S_M) H
      refine z_nn_of (s_1595_40 S_M) ?_
      refine And.intro H.1 ?_
      replace H := H.2
      replace H := z_nne (s_1596_40 S_M) H
      refine z_nn_of (s_1596_40 S_M) ?_
      refine And.intro H.1 ?_
      replace H := H.2
      replace H := z_nne (s_1591_40 S_M) H
      refine z_nn_of (s_1591_40 S_M) ?_
      refine And.intro H.1 ?_
      replace H := H.2
      intro M_59 e_M_59
      replace H := H M_59 e_M_59
      have S_M_59 : y_S n M_59 := by rw [e_M_59]; exact S_sai S_M
      have r_M_59 : R M_59 := by rw [e_M_59]; exact hR.1 _ 69 _ _ (by decide) (by decide) (by decide) r_M
      intro x_60 e_x_60
      replace H := H x_60 e_x_60
      exact ih S_M_59 r_M_59 H K
set_option maxRecDepth 100000 in
set_option maxHeartbeats 4000000 in
theorem mQ_hearsOf_27 {n : Nat} {R : z_Mem → Prop} (hR : y_mQ n R) {Q Post : z_Mem → Prop} {x1 : Int32} {x2 : Int32} {M : z_Mem} (S_M : y_S n M) (r_M : R M) (H : P_X12_hearsOf_27 (n + 40) Q x1 x2 M) (K : ∀ M1, Q M1 → y_S n M1 → R M1 → Post M1) : P_X12_hearsOf_27 (n + 40) Post x1 x2 M := by
  unfold P_X12_hearsOf_27 at H ⊢
  replace H := z_nne (s_1617_40 S_M) H
  refine z_nn_of (s_1617_40 S_M) ?_
  refine And.intro H.1 ?_
  replace H := H.2
  replace H := z_nne (s_1604_40 S_M) H
  refine z_nn_of (s_1604_40 S_M) ?_
  refine And.intro H.1 ?_
  replace H := H.2
  refine mQ_max hR S_M r_M H (fun x_68 M_68 H S_M_68 r_M_68 => ?_)
  replace H := z_nne (s_1617_40 S_M) H
  refine z_nn_of (s_1617_40 S_M) ?_
  refine And.intro H.1 ?_
  replace H := H.2
  intro M_71 e_M_71
  replace H := H M_71 e_M_71
  have S_M_71 : y_S n M_71 := by rw [e_M_71]; exact S_sai S_M_68
  have r_M_71 : R M_71 := by rw [e_M_71]; exact hR.1 _ 94 _ _ (by decide) (by decide) (by decide) r_M_68
  obtain ⟨m, H⟩ := H
  refine ⟨m, ?_⟩
  exact mQ_hearsOf_50 hR m S_M_71 r_M_71 H K
set_option maxRecDepth 100000 in
set_option maxHeartbeats 4000000 in
theorem mQ_hearsOf {n : Nat} {R : z_Mem → Prop} (hR : y_mQ n R) {Q Post : z_Mem → Prop} {p1 : Int32} {M : z_Mem} (S_M : y_S n M) (r_M : R M) (H : P_X12_hearsOf (n + 40) p1 M Q) (K : ∀ M1, Q M1 → y_S n M1 → R M1 → Post M1) : P_X12_hearsOf (n + 40) p1 M Post := by
  unfold P_X12_hearsOf at H ⊢
  replace H := z_nne (s_1593_40 S_M) H
  refine z_nn_of (s_1593_40 S_M) ?_
  refine And.intro H.1 ?_
  replace H := H.2
  intro x_76 e_x_76
  replace H := H x_76 e_x_76
  replace H := z_nne (s_1598_40 S_M) H
  refine z_nn_of (s_1598_40 S_M) ?_
  refine And.intro H.1 ?_
  replace H := H.2
  refine And.intro (fun c1 => ?_) (fun c1 => ?_)
  · replace H := H.1 c1
    exact mQ_hearsOf_27 hR S_M r_M H K
  · replace H := H.2 c1
    replace H := z_nne (s_1598_40 S_M) H
    refine z_nn_of (s_1598_40 S_M) ?_
    refine And.intro H.1 ?_
    replace H := H.2
    refine And.intro (fun c2 => ?_) (fun c2 => ?_)
    · replace H := H.1 c2
      exact mQ_hearsOf_27 hR S_M r_M H K
    · replace H := H.2 c2
      exact K _ H S_M r_M
set_option maxRecDepth 100000 in
set_option maxHeartbeats 4000000 in
theorem mQ_hearsAck_78 {n : Nat} {R : z_Mem → Prop} (hR : y_mQ n R) {Q Post : z_Mem → Prop} {QJ58 PJ58 : Int32 → Int32 → Int32 → Int32 → z_Mem → Prop} : ∀ (m : Nat) {x2 : Int32} {x3 : Int32} {x4 : Int32} {x5 : Int32} {x6 : Int32} {M : z_Mem} (S_M : y_S n M) (r_M : R M) (H : P_X12_hearsAck_78 (n + 40) Q QJ58 m x2 x3 x4 x5 x6 M) (K : ∀ M1, Q M1 → y_S n M1 → R M1 → Post M1) (KJ58 : ∀ v0 v1 v2 v3 M1, QJ58 v0 v1 v2 v3 M1 → y_S n M1 → R M1 → PJ58 v0 v1 v2 v3 M1), P_X12_hearsAck_78 (n + 40) Post PJ58 m x2 x3 x4 x5 x6 M := by
  intro m
  induction m with
  | zero => intros; rename_i H _ _; exact False.elim H
  | succ m ih =>
    intro x2 x3 x4 x5 x6 M S_M r_M H K KJ58
    unfold P_X12_hearsAck_78 at H ⊢
    replace H := z_nne (s_1560_40 S_M) H
    refine z_nn_of (s_1560_40 S_M) ?_
    refine And.intro H.1 ?_
    replace H := H.2
    refine And.intro (fun c1 => ?_) (fun c1 => ?_)
    · replace H := H.1 c1
      intro x_5 e_x_5
      replace H := H x_5 e_x_5
      exact KJ58 _ _ _ _ _ H S_M r_M
    · replace H := H.2 c1
      refine mQ_hearsOf hR S_M r_M H (fun M_6 H S_M_6 r_M_6 => ?_)
      intro x_7 e_x_7
      replace H := H x_7 e_x_7
      exact ih S_M_6 r_M_6 H K KJ58
set_option maxRecDepth 100000 in
set_option maxHeartbeats 4000000 in
theorem mQ_hearsAck_271 {n : Nat} {R : z_Mem → Prop} (hR : y_mQ n R) {Q Post : z_Mem → Prop} : ∀ (m : Nat) {x5 : Int32} {M : z_Mem} (S_M : y_S n M) (r_M : R M) (H : P_X12_hearsAck_271 (n + 40) Q m x5 M) (K : ∀ M1, Q M1 → y_S n M1 → R M1 → Post M1), P_X12_hearsAck_271 (n + 40) Post m x5 M := by
  intro m
  induction m with
  | zero => intros; rename_i H _; exact False.elim H
  | succ m ih =>
    intro x5 M S_M r_M H K
    unfold P_X12_hearsAck_271 at H ⊢
    refine And.intro (fun c1 => ?_) (fun c1 => ?_)
    · replace H := H.1 c1
      exact K _ H S_M r_M
    · replace H := H.2 c1
      refine mQ_losesByOrder hR S_M r_M H (fun M_9 H S_M_9 r_M_9 => ?_)
      refine mQ_losesByTime hR S_M_9 r_M_9 H (fun M_10 H S_M_10 r_M_10 => ?_)
      intro x_11 e_x_11
      replace H := H x_11 e_x_11
      exact ih S_M_10 r_M_10 H K
set_option maxRecDepth 100000 in
set_option maxHeartbeats 4000000 in
theorem mQ_hearsAck_248 {n : Nat} {R : z_Mem → Prop} (hR : y_mQ n R) {Q Post : z_Mem → Prop} : ∀ (m : Nat) {x5 : Int32} {M : z_Mem} (S_M : y_S n M) (r_M : R M) (H : P_X12_hearsAck_248 (n + 40) Q m x5 M) (K : ∀ M1, Q M1 → y_S n M1 → R M1 → Post M1), P_X12_hearsAck_248 (n + 40) Post m x5 M := by
  intro m
  induction m with
  | zero => intros; rename_i H _; exact False.elim H
  | succ m ih =>
    intro x5 M S_M r_M H K
    unfold P_X12_hearsAck_248 at H ⊢
    refine And.intro (fun c1 => ?_) (fun c1 => ?_)
    · replace H := H.1 c1
      obtain ⟨m, H⟩ := H
      refine ⟨m, ?_⟩
      exact mQ_hearsAck_271 hR m S_M r_M H K
    · replace H := H.2 c1
      replace H := z_nne (s_1619_40 S_M) H
      refine z_nn_of (s_1619_40 S_M) ?_
      refine And.intro H.1 ?_
      replace H := H.2
      intro M_17 e_M_17
      replace H := H M_17 e_M_17
      have S_M_17 : y_S n M_17 := by rw [e_M_17]; exact S_sai S_M
      have r_M_17 : R M_17 := by rw [e_M_17]; exact hR.1 _ 96 _ _ (by decide) (by decide) (by decide) r_M
      intro x_18 e_x_18
      replace H := H x_18 e_x_18
      exact ih S_M_17 r_M_17 H K
set_option maxRecDepth 100000 in
set_option maxHeartbeats 4000000 in
theorem mQ_hearsAck_184 {n : Nat} {R : z_Mem → Prop} (hR : y_mQ n R) {Q Post : z_Mem → Prop} : ∀ (m : Nat) {x2 : Int32} {x5 : Int32} {M : z_Mem} (S_M : y_S n M) (r_M : R M) (H : P_X12_hearsAck_184 (n + 40) Q m x2 x5 M) (K : ∀ M1, Q M1 → y_S n M1 → R M1 → Post M1), P_X12_hearsAck_184 (n + 40) Post m x2 x5 M := by
  intro m
  induction m with
  | zero => intros; rename_i H _; exact False.elim H
  | succ m ih =>
    intro x2 x5 M S_M r_M H K
    unfold P_X12_hearsAck_184 at H ⊢
    refine And.intro (fun c1 => ?_) (fun c1 => ?_)
    · replace H := H.1 c1
      replace H := z_nne (s_1560_40 S_M) H
      refine z_nn_of (s_1560_40 S_M) ?_
      refine And.intro H.1 ?_
      replace H := H.2
      refine mQ_max hR S_M r_M H (fun x_24 M_24 H S_M_24 r_M_24 => ?_)
      intro M_25 e_M_25
      replace H := H M_25 e_M_25
      have S_M_25 : y_S n M_25 := by rw [e_M_25]; exact S_sfi S_M_24
      have r_M_25 : R M_25 := by rw [e_M_25]; exact hR.2.2 _ 1589 _ (by decide) r_M_24
      obtain ⟨m, H⟩ := H
      refine ⟨m, ?_⟩
      exact mQ_hearsAck_248 hR m S_M_25 r_M_25 H K
    · replace H := H.2 c1
      replace H := z_nne (s_1588_40 S_M) H
      refine z_nn_of (s_1588_40 S_M) ?_
      refine And.intro H.1 ?_
      replace H := H.2
      replace H := z_nne (s_1560_40 S_M) H
      refine z_nn_of (s_1560_40 S_M) ?_
      refine And.intro H.1 ?_
      replace H := H.2
      refine mQ_max hR S_M r_M H (fun x_34 M_34 H S_M_34 r_M_34 => ?_)
      replace H := z_nne (s_1588_40 S_M) H
      refine z_nn_of (s_1588_40 S_M) ?_
      refine And.intro H.1 ?_
      replace H := H.2
      intro M_37 e_M_37
      replace H := H M_37 e_M_37
      have S_M_37 : y_S n M_37 := by rw [e_M_37]; exact S_sai S_M_34
      have r_M_37 : R M_37 := by rw [e_M_37]; exact hR.1 _ 68 _ _ (by decide) (by decide) (by decide) r_M_34
      intro x_38 e_x_38
      replace H := H x_38 e_x_38
      exact ih S_M_37 r_M_37 H K
set_option maxRecDepth 100000 in
set_option maxHeartbeats 4000000 in
theorem mQ_hearsAck_181 {n : Nat} {R : z_Mem → Prop} (hR : y_mQ n R) {Q Post : z_Mem → Prop} {x2 : Int32} {M : z_Mem} (S_M : y_S n M) (r_M : R M) (H : P_X12_hearsAck_181 (n + 40) Q x2 M) (K : ∀ M1, Q M1 → y_S n M1 → R M1 → Post M1) : P_X12_hearsAck_181 (n + 40) Post x2 M := by
  unfold P_X12_hearsAck_181 at H ⊢
  obtain ⟨m, H⟩ := H
  refine ⟨m, ?_⟩
  exact mQ_hearsAck_184 hR m S_M r_M H K
set_option maxRecDepth 100000 in
set_option maxHeartbeats 4000000 in
theorem mQ_hearsAck_140 {n : Nat} {R : z_Mem → Prop} (hR : y_mQ n R) {Q Post : z_Mem → Prop} {x2 : Int32} {x3 : Int32} {M : z_Mem} (S_M : y_S n M) (r_M : R M) (H : P_X12_hearsAck_140 (n + 40) Q x2 x3 M) (K : ∀ M1, Q M1 → y_S n M1 → R M1 → Post M1) : P_X12_hearsAck_140 (n + 40) Post x2 x3 M := by
  unfold P_X12_hearsAck_140 at H ⊢
  replace H := z_nne (s_1560_40 S_M) H
  refine z_nn_of (s_1560_40 S_M) ?_
  refine And.intro H.1 ?_
  replace H := H.2
  refine And.intro (fun c1 => ?_) (fun c1 => ?_)
  · replace H := H.1 c1
    exact mQ_hearsAck_181 hR S_M r_M H K
  · replace H := H.2 c1
    replace H := z_nne (s_1560_40 S_M) H
    refine z_nn_of (s_1560_40 S_M) ?_
    refine And.intro H.1 ?_
    replace H := H.2
    intro M_48 e_M_48
    replace H := H M_48 e_M_48
    have S_M_48 : y_S n M_48 := by rw [e_M_48]; exact S_sfi S_M
    have r_M_48 : R M_48 := by rw [e_M_48]; exact hR.2.2 _ 1585 _ (by decide) r_M
    replace H := z_nne (s_1593_40 S_M_48) H
    refine z_nn_of (s_1593_40 S_M_48) ?_
    refine And.intro H.1 ?_
    replace H := H.2
    refine mQ_harms hR S_M_48 r_M_48 H (fun M_52 H S_M_52 r_M_52 => ?_)
    exact mQ_hearsAck_181 hR S_M_52 r_M_52 H K
set_option maxRecDepth 100000 in
set_option maxHeartbeats 4000000 in
theorem mQ_hearsAck_58 {n : Nat} {R : z_Mem → Prop} (hR : y_mQ n R) {Q Post : z_Mem → Prop} : ∀ (m : Nat) {x2 : Int32} {x3 : Int32} {x4 : Int32} {x5 : Int32} {M : z_Mem} (S_M : y_S n M) (r_M : R M) (H : P_X12_hearsAck_58 (n + 40) Q m x2 x3 x4 x5 M) (K : ∀ M1, Q M1 → y_S n M1 → R M1 → Post M1), P_X12_hearsAck_58 (n + 40) Post m x2 x3 x4 x5 M := by
  intro m
  induction m with
  | zero => intros; rename_i H _; exact False.elim H
  | succ m ih =>
    intro x2 x3 x4 x5 M S_M r_M H K
    unfold P_X12_hearsAck_58 at H ⊢
    refine And.intro (fun c1 => ?_) (fun c1 => ?_)
    · replace H := H.1 c1
      refine And.intro (fun c2 => ?_) (fun c2 => ?_)
      · replace H := H.1 c2
        exact mQ_hearsAck_140 hR S_M r_M H K
      · replace H := H.2 c2
        replace H := z_nne (s_1593_40 S_M) H
        refine z_nn_of (s_1593_40 S_M) ?_
        refine And.intro H.1 ?_
        replace H := H.2
        replace H := z_nne (s_1594_40 S_M) H
        refine z_nn_of (s_1594_40 S_M) ?_
        refine And.intro H.1 ?_
        replace H := H.2
        refine mQ_measures hR S_M r_M H (fun M_62 H S_M_62 r_M_62 => ?_)
        exact mQ_hearsAck_140 hR S_M_62 r_M_62 H K
    · replace H := H.2 c1
      replace H := z_nne (s_1560_40 S_M) H
      refine z_nn_of (s_1560_40 S_M) ?_
      refine And.intro H.1 ?_
      replace H := H.2
      intro x_66 e_x_66
      replace H := H x_66 e_x_66
      obtain ⟨m, H⟩ := H
      refine ⟨m, ?_⟩
      exact mQ_hearsAck_78 hR m S_M r_M H K (fun v0 v1 v2 v3 M1 q S u => ih S u q K)
set_option maxRecDepth 100000 in
set_option maxHeartbeats 4000000 in
theorem mQ_hearsAck_46 {n : Nat} {R : z_Mem → Prop} (hR : y_mQ n R) {Q Post : z_Mem → Prop} {x2 : Int32} {x3 : Int32} {t0 : Int32} {M : z_Mem} (S_M : y_S n M) (r_M : R M) (H : P_X12_hearsAck_46 (n + 40) Q x2 x3 t0 M) (K : ∀ M1, Q M1 → y_S n M1 → R M1 → Post M1) : P_X12_hearsAck_46 (n + 40) Post x2 x3 t0 M := by
  unfold P_X12_hearsAck_46 at H ⊢
  replace H := z_nne (s_1560_40 S_M) H
  refine z_nn_of (s_1560_40 S_M) ?_
  refine And.intro H.1 ?_
  replace H := H.2
  intro x_71 e_x_71
  replace H := H x_71 e_x_71
  obtain ⟨m, H⟩ := H
  refine ⟨m, ?_⟩
  exact mQ_hearsAck_58 hR m S_M r_M H K
set_option maxRecDepth 100000 in
set_option maxHeartbeats 4000000 in
theorem mQ_hearsAck_45 {n : Nat} {R : z_Mem → Prop} (hR : y_mQ n R) {Q Post : z_Mem → Prop} {x2 : Int32} {x3 : Int32} {M : z_Mem} (S_M : y_S n M) (r_M : R M) (H : P_X12_hearsAck_45 (n + 40) Q x2 x3 M) (K : ∀ M1, Q M1 → y_S n M1 → R M1 → Post M1) : P_X12_hearsAck_45 (n + 40) Post x2 x3 M := by
  unfold P_X12_hearsAck_45 at H ⊢
  exact mQ_hearsAck_46 hR S_M r_M H K
set_option maxRecDepth 100000 in
set_option maxHeartbeats 4000000 in
theorem mQ_hearsAck_26 {n : Nat} {R : z_Mem → Prop} (hR : y_mQ n R) {Q Post : z_Mem → Prop} {x2 : Int32} {t0 : Int32} {M : z_Mem} (S_M : y_S n M) (r_M : R M) (H : P_X12_hearsAck_26 (n + 40) Q x2 t0 M) (K : ∀ M1, Q M1 → y_S n M1 → R M1 → Post M1) : P_X12_hearsAck_26 (n + 40) Post x2 t0 M := by
  unfold P_X12_hearsAck_26 at H ⊢
  refine And.intro (fun c1 => ?_) (fun c1 => ?_)
  · replace H := H.1 c1
    exact mQ_hearsAck_45 hR S_M r_M H K
  · replace H := H.2 c1
    replace H := z_nne (s_1598_40 S_M) H
    refine z_nn_of (s_1598_40 S_M) ?_
    refine And.intro H.1 ?_
    replace H := H.2
    refine And.intro (fun c2 => ?_) (fun c2 => ?_)
    · replace H := H.1 c2
      exact mQ_hearsAck_46 hR S_M r_M H K
    · replace H := H.2 c2
      exact mQ_hearsAck_45 hR S_M r_M H K
set_option maxRecDepth 100000 in
set_option maxHeartbeats 4000000 in
theorem mQ_hearsAck {n : Nat} {R : z_Mem → Prop} (hR : y_mQ n R) {Q Post : z_Mem → Prop} {p1 : Int32} {M : z_Mem} (S_M : y_S n M) (r_M : R M) (H : P_X12_hearsAck (n + 40) p1 M Q) (K : ∀ M1, Q M1 → y_S n M1 → R M1 → Post M1) : P_X12_hearsAck (n + 40) p1 M Post := by
  unfold P_X12_hearsAck at H ⊢
  intro x_78 e_x_78
  replace H := H x_78 e_x_78
  replace H := z_nne (s_1560_40 S_M) H
  refine z_nn_of (s_1560_40 S_M) ?_
  refine And.intro H.1 ?_
  replace H := H.2
  refine And.intro (fun c1 => ?_) (fun c1 => ?_)
  · replace H := H.1 c1
    exact mQ_hearsAck_26 hR S_M r_M H K
  · replace H := H.2 c1
    replace H := z_nne (s_1560_40 S_M) H
    refine z_nn_of (s_1560_40 S_M) ?_
    refine And.intro H.1 ?_
    replace H := H.2
    exact mQ_hearsAck_26 hR S_M r_M H K
set_option maxRecDepth 100000 in
set_option maxHeartbeats 4000000 in
theorem mQ_saysHello {n : Nat} {R : z_Mem → Prop} (hR : y_mQ n R) {Q Post : z_Mem → Prop} {M : z_Mem} (S_M : y_S n M) (r_M : R M) (H : P_X12_saysHello (n + 40) M Q) (K : ∀ M1, Q M1 → y_S n M1 → R M1 → Post M1) : P_X12_saysHello (n + 40) M Post := by
  unfold P_X12_saysHello at H ⊢
  intro M_2 e_M_2
  replace H := H M_2 e_M_2
  have S_M_2 : y_S n M_2 := by rw [e_M_2]; exact S_sfi S_M
  have r_M_2 : R M_2 := by rw [e_M_2]; exact hR.2.2 _ 1580 _ (by decide) r_M
  replace H := z_nne (s_1629_40 S_M_2) H
  refine z_nn_of (s_1629_40 S_M_2) ?_
  refine And.intro H.1 ?_
  replace H := H.2
  refine And.intro H.1 ?_
  replace H := H.2
  intro M_7 e_M_7
  replace H := H M_7 e_M_7
  have S_M_7 : y_S n M_7 := by rw [e_M_7]; exact S_sai S_M_2
  have r_M_7 : R M_7 := by rw [e_M_7]; exact hR.1 _ 106 _ _ (by decide) (by decide) (by decide) r_M_2
  refine And.intro (fun c1 => ?_) (fun c1 => ?_)
  · replace H := H.1 c1
    refine mQ_puts hR S_M_7 r_M_7 H (fun M_11 H S_M_11 r_M_11 => ?_)
    exact K _ H S_M_11 r_M_11
  · replace H := H.2 c1
    refine mQ_puts hR S_M_7 r_M_7 H (fun M_12 H S_M_12 r_M_12 => ?_)
    exact K _ H S_M_12 r_M_12
set_option maxRecDepth 100000 in
set_option maxHeartbeats 4000000 in
theorem mQ_hearsAccept_57 {n : Nat} {R : z_Mem → Prop} (hR : y_mQ n R) {Q Post : z_Mem → Prop} {QJ21 PJ21 : Int32 → Int32 → z_Mem → Prop} {x1 : Int32} {x2 : Int32} {M : z_Mem} (S_M : y_S n M) (r_M : R M) (H : P_X12_hearsAccept_57 (n + 40) Q QJ21 x1 x2 M) (K : ∀ M1, Q M1 → y_S n M1 → R M1 → Post M1) (KJ21 : ∀ v0 v1 M1, QJ21 v0 v1 M1 → y_S n M1 → R M1 → PJ21 v0 v1 M1) : P_X12_hearsAccept_57 (n + 40) Post PJ21 x1 x2 M := by
  unfold P_X12_hearsAccept_57 at H ⊢
  intro x_1 e_x_1
  replace H := H x_1 e_x_1
  exact KJ21 _ _ _ H S_M r_M
set_option maxRecDepth 100000 in
set_option maxHeartbeats 4000000 in
theorem mQ_hearsAccept_21 {n : Nat} {R : z_Mem → Prop} (hR : y_mQ n R) {Q Post : z_Mem → Prop} : ∀ (m : Nat) {x1 : Int32} {x2 : Int32} {M : z_Mem} (S_M : y_S n M) (r_M : R M) (H : P_X12_hearsAccept_21 (n + 40) Q m x1 x2 M) (K : ∀ M1, Q M1 → y_S n M1 → R M1 → Post M1), P_X12_hearsAccept_21 (n + 40) Post m x1 x2 M := by
  intro m
  induction m with
  | zero => intros; rename_i H _; exact False.elim H
  | succ m ih =>
    intro x1 x2 M S_M r_M H K
    unfold P_X12_hearsAccept_21 at H ⊢
    refine And.intro (fun c1 => ?_) (fun c1 => ?_)
    · replace H := H.1 c1
      exact K _ H S_M r_M
    · replace H := H.2 c1
      refine And.intro (fun c2 => ?_) (fun c2 => ?_)
      · replace H := H.1 c2
        replace H := z_nne (s_1602_40 S_M) H
        refine z_nn_of (s_1602_40 S_M) ?_
        refine And.intro H.1 ?_
        replace H := H.2
        refine And.intro (fun c3 => ?_) (fun c3 => ?_)
        · replace H := H.1 c3
          exact mQ_hearsAccept_57 hR S_M r_M H K (fun v0 v1 M1 q S u => ih S u q K)
        · replace H := H.2 c3
          replace H := z_nne (s_1598_40 S_M) H
          refine z_nn_of (s_1598_40 S_M) ?_
          refine And.intro H.1 ?_
          replace H := H.2
          refine And.intro (fun c4 => ?_) (fun c4 => ?_)
          · replace H := H.1 c4
            refine mQ_lands hR S_M r_M H (fun M_13 H S_M_13 r_M_13 => ?_)
            exact mQ_hearsAccept_57 hR S_M_13 r_M_13 H K (fun v0 v1 M1 q S u => ih S u q K)
          · replace H := H.2 c4
            exact mQ_hearsAccept_57 hR S_M r_M H K (fun v0 v1 M1 q S u => ih S u q K)
      · replace H := H.2 c2
        exact mQ_hearsAccept_57 hR S_M r_M H K (fun v0 v1 M1 q S u => ih S u q K)
set_option maxRecDepth 100000 in
set_option maxHeartbeats 4000000 in
theorem mQ_hearsAccept {n : Nat} {R : z_Mem → Prop} (hR : y_mQ n R) {Q Post : z_Mem → Prop} {p1 : Int32} {M : z_Mem} (S_M : y_S n M) (r_M : R M) (H : P_X12_hearsAccept (n + 40) p1 M Q) (K : ∀ M1, Q M1 → y_S n M1 → R M1 → Post M1) : P_X12_hearsAccept (n + 40) p1 M Post := by
  unfold P_X12_hearsAccept at H ⊢
  intro M_14 e_M_14
  replace H := H M_14 e_M_14
  have S_M_14 : y_S n M_14 := by rw [e_M_14]; exact S_sfi S_M
  have r_M_14 : R M_14 := by rw [e_M_14]; exact hR.2.2 _ 1577 _ (by decide) r_M
  refine mQ_measures hR S_M_14 r_M_14 H (fun M_17 H S_M_17 r_M_17 => ?_)
  obtain ⟨m, H⟩ := H
  refine ⟨m, ?_⟩
  exact mQ_hearsAccept_21 hR m S_M_17 r_M_17 H K
set_option maxRecDepth 100000 in
set_option maxHeartbeats 4000000 in
theorem mQ_arrivesAtClient_153 {n : Nat} {R : z_Mem → Prop} (hR : y_mQ n R) {Q Post : z_Mem → Prop} {x2 : Int32} {M : z_Mem} (S_M : y_S n M) (r_M : R M) (H : P_X12_arrivesAtClient_153 (n + 40) Q x2 M) (K : ∀ M1, Q M1 → y_S n M1 → R M1 → Post M1) : P_X12_arrivesAtClient_153 (n + 40) Post x2 M := by
  unfold P_X12_arrivesAtClient_153 at H ⊢
  refine And.intro (fun c1 => ?_) (fun c1 => ?_)
  · replace H := H.1 c1
    refine And.intro (fun c2 => ?_) (fun c2 => ?_)
    · replace H := H.1 c2
      exact K _ H S_M r_M
    · replace H := H.2 c2
      intro M_4 e_M_4
      replace H := H M_4 e_M_4
      have S_M_4 : y_S n M_4 := by rw [e_M_4]; exact S_sfi S_M
      have r_M_4 : R M_4 := by rw [e_M_4]; exact hR.2.2 _ 1577 _ (by decide) r_M
      exact K _ H S_M_4 r_M_4
  · replace H := H.2 c1
    exact K _ H S_M r_M
set_option maxRecDepth 100000 in
set_option maxHeartbeats 4000000 in
theorem mQ_arrivesAtClient_116 {n : Nat} {R : z_Mem → Prop} (hR : y_mQ n R) {Q Post : z_Mem → Prop} {x1 : Int32} {x2 : Int32} {M : z_Mem} (S_M : y_S n M) (r_M : R M) (H : P_X12_arrivesAtClient_116 (n + 40) Q x1 x2 M) (K : ∀ M1, Q M1 → y_S n M1 → R M1 → Post M1) : P_X12_arrivesAtClient_116 (n + 40) Post x1 x2 M := by
  unfold P_X12_arrivesAtClient_116 at H ⊢
  refine And.intro (fun c1 => ?_) (fun c1 => ?_)
  · replace H := H.1 c1
    refine And.intro (fun c2 => ?_) (fun c2 => ?_)
    · replace H := H.1 c2
      exact mQ_arrivesAtClient_153 hR S_M r_M H K
    · replace H := H.2 c2
      refine And.intro (fun c3 => ?_) (fun c3 => ?_)
      · replace H := H.1 c3
        exact mQ_arrivesAtClient_153 hR S_M r_M H K
      · replace H := H.2 c3
        replace H := z_nne (s_1557_40 S_M) H
        refine z_nn_of (s_1557_40 S_M) ?_
        refine And.intro H.1 ?_
        replace H := H.2
        replace H := z_nne (s_1615_40 S_M) H
        refine z_nn_of (s_1615_40 S_M) ?_
        refine And.intro H.1 ?_
        replace H := H.2
        intro M_16 e_M_16
        replace H := H M_16 e_M_16
        have S_M_16 : y_S n M_16 := by rw [e_M_16]; exact S_sai S_M
        have r_M_16 : R M_16 := by rw [e_M_16]; exact hR.2.1 _ _ r_M
        exact K _ H S_M_16 r_M_16
  · replace H := H.2 c1
    exact mQ_arrivesAtClient_153 hR S_M r_M H K
set_option maxRecDepth 100000 in
set_option maxHeartbeats 4000000 in
theorem mQ_arrivesAtClient_81 {n : Nat} {R : z_Mem → Prop} (hR : y_mQ n R) {Q Post : z_Mem → Prop} {x1 : Int32} {x2 : Int32} {M : z_Mem} (S_M : y_S n M) (r_M : R M) (H : P_X12_arrivesAtClient_81 (n + 40) Q x1 x2 M) (K : ∀ M1, Q M1 → y_S n M1 → R M1 → Post M1) : P_X12_arrivesAtClient_81 (n + 40) Post x1 x2 M := by
  unfold P_X12_arrivesAtClient_81 at H ⊢
  refine And.intro (fun c1 => ?_) (fun c1 => ?_)
  · replace H := H.1 c1
    refine And.intro (fun c2 => ?_) (fun c2 => ?_)
    · replace H := H.1 c2
      replace H := z_nne (s_1556_40 S_M) H
      refine z_nn_of (s_1556_40 S_M) ?_
      refine And.intro H.1 ?_
      replace H := H.2
      refine mQ_hearsAck hR S_M r_M H (fun M_23 H S_M_23 r_M_23 => ?_)
      exact K _ H S_M_23 r_M_23
    · replace H := H.2 c2
      refine And.intro (fun c3 => ?_) (fun c3 => ?_)
      · replace H := H.1 c3
        replace H := z_nne (s_1556_40 S_M) H
        refine z_nn_of (s_1556_40 S_M) ?_
        refine And.intro H.1 ?_
        replace H := H.2
        refine mQ_hearsAck hR S_M r_M H (fun M_29 H S_M_29 r_M_29 => ?_)
        exact K _ H S_M_29 r_M_29
      · replace H := H.2 c3
        exact mQ_arrivesAtClient_116 hR S_M r_M H K
  · replace H := H.2 c1
    exact mQ_arrivesAtClient_116 hR S_M r_M H K
set_option maxRecDepth 100000 in
set_option maxHeartbeats 4000000 in
theorem mQ_arrivesAtClient_45 {n : Nat} {R : z_Mem → Prop} (hR : y_mQ n R) {Q Post : z_Mem → Prop} {x1 : Int32} {x2 : Int32} {M : z_Mem} (S_M : y_S n M) (r_M : R M) (H : P_X12_arrivesAtClient_45 (n + 40) Q x1 x2 M) (K : ∀ M1, Q M1 → y_S n M1 → R M1 → Post M1) : P_X12_arrivesAtClient_45 (n + 40) Post x1 x2 M := by
  unfold P_X12_arrivesAtClient_45 at H ⊢
  refine And.intro (fun c1 => ?_) (fun c1 => ?_)
  · replace H := H.1 c1
    refine And.intro (fun c2 => ?_) (fun c2 => ?_)
    · replace H := H.1 c2
      replace H := z_nne (s_1556_40 S_M) H
      refine z_nn_of (s_1556_40 S_M) ?_
      refine And.intro H.1 ?_
      replace H := H.2
      refine And.intro (fun c3 => ?_) (fun c3 => ?_)
      · replace H := H.1 c3
        refine mQ_hearsAccept hR S_M r_M H (fun M_38 H S_M_38 r_M_38 => ?_)
        exact K _ H S_M_38 r_M_38
      · replace H := H.2 c3
        refine mQ_hearsAccept hR S_M r_M H (fun M_37 H S_M_37 r_M_37 => ?_)
        exact K _ H S_M_37 r_M_37
    · replace H := H.2 c2
      exact mQ_arrivesAtClient_81 hR S_M r_M H K
  · replace H := H.2 c1
    exact mQ_arrivesAtClient_81 hR S_M r_M H K
set_option maxRecDepth 100000 in
set_option maxHeartbeats 4000000 in
theorem mQ_arrivesAtClient {n : Nat} {R : z_Mem → Prop} (hR : y_mQ n R) {Q Post : z_Mem → Prop} {p1 : Int32} {M : z_Mem} (S_M : y_S n M) (r_M : R M) (H : P_X12_arrivesAtClient (n + 40) p1 M Q) (K : ∀ M1, Q M1 → y_S n M1 → R M1 → Post M1) : P_X12_arrivesAtClient (n + 40) p1 M Post := by
  unfold P_X12_arrivesAtClient at H ⊢
  replace H := z_nne (s_1555_40 S_M) H
  refine z_nn_of (s_1555_40 S_M) ?_
  refine And.intro H.1 ?_
  replace H := H.2
  intro x_42 e_x_42
  replace H := H x_42 e_x_42
  refine And.intro (fun c1 => ?_) (fun c1 => ?_)
  · replace H := H.1 c1
    refine And.intro (fun c2 => ?_) (fun c2 => ?_)
    · replace H := H.1 c2
      refine And.intro (fun c3 => ?_) (fun c3 => ?_)
      · replace H := H.1 c3
        intro M_48 e_M_48
        replace H := H M_48 e_M_48
        have S_M_48 : y_S n M_48 := by rw [e_M_48]; exact S_sfi S_M
        have r_M_48 : R M_48 := by rw [e_M_48]; exact hR.2.2 _ 1579 _ (by decide) r_M
        intro M_49 e_M_49
        replace H := H M_49 e_M_49
        have S_M_49 : y_S n M_49 := by rw [e_M_49]; exact S_sfi S_M_48
        have r_M_49 : R M_49 := by rw [e_M_49]; exact hR.2.2 _ 1581 _ (by decide) r_M_48
        refine mQ_saysHello hR S_M_49 r_M_49 H (fun M_50 H S_M_50 r_M_50 => ?_)
        exact K _ H S_M_50 r_M_50
      · replace H := H.2 c3
        exact mQ_arrivesAtClient_45 hR S_M r_M H K
    · replace H := H.2 c2
      exact mQ_arrivesAtClient_45 hR S_M r_M H K
  · replace H := H.2 c1
    exact mQ_arrivesAtClient_45 hR S_M r_M H K
set_option maxRecDepth 100000 in
set_option maxHeartbeats 4000000 in
theorem mQ_sends_139 {n : Nat} {R : z_Mem → Prop} (hR : y_mQ n R) {Q Post : z_Mem → Prop} : ∀ (m : Nat) {x1 : Int32} {x2 : Int32} {x3 : Int32} {x4 : Int32} {x6 : Int32} {x7 : Int32} {M : z_Mem} (S_M : y_S n M) (r_M : R M) (H : P_X12_sends_139 (n + 40) Q m x1 x2 x3 x4 x6 x7 M) (K : ∀ M1, Q M1 → y_S n M1 → R M1 → Post M1), P_X12_sends_139 (n + 40) Post m x1 x2 x3 x4 x6 x7 M := by
  intro m
  induction m with
  | zero => intros; rename_i H _; exact False.elim H
  | succ m ih =>
    intro x1 x2 x3 x4 x6 x7 M S_M r_M H K
    unfold P_X12_sends_139 at H ⊢
    refine And.intro (fun c1 => ?_) (fun c1 => ?_)
    · replace H := H.1 c1
      intro M_3 e_M_3
      replace H := H M_3 e_M_3
      have S_M_3 : y_S n M_3 := by rw [e_M_3]; exact S_sfi S_M
      have r_M_3 : R M_3 := by rw [e_M_3]; exact hR.2.2 _ 1606 _ (by decide) r_M
      refine mQ_puts hR S_M_3 r_M_3 H (fun M_4 H S_M_4 r_M_4 => ?_)
      exact K _ H S_M_4 r_M_4
    · replace H := H.2 c1
      replace H := z_nne (s_1592_40 S_M) H
      refine z_nn_of (s_1592_40 S_M) ?_
      refine And.intro H.1 ?_
      replace H := H.2
      refine And.intro H.1 ?_
      replace H := H.2
      intro M_9 e_M_9
      replace H := H M_9 e_M_9
      have S_M_9 : y_S n M_9 := by rw [e_M_9]; exact S_sai S_M
      have r_M_9 : R M_9 := by rw [e_M_9]; exact hR.1 _ 70 _ _ (by decide) (by decide) (by decide) r_M
      intro x_10 e_x_10
      replace H := H x_10 e_x_10
      exact ih S_M_9 r_M_9 H K
set_option maxRecDepth 100000 in
set_option maxHeartbeats 4000000 in
theorem mQ_sends_89 {n : Nat} {R : z_Mem → Prop} (hR : y_mQ n R) {Q Post : z_Mem → Prop} {x1 : Int32} {x2 : Int32} {x3 : Int32} {x4 : Int32} {x6 : Int32} {t1 : Int32} {t2 : Int32} {t0 : Nat} {o_t0 : Option Nat} {M : z_Mem} (h0_t0 : 41 ≤ t0) (h1_t0 : t0 < 107) (h2_t0 : t0 ≠ 92) (ho_t0 : o_t0 = some (n + t0)) (S_M : y_S n M) (r_M : R M) (H : P_X12_sends_89 (n + 40) Q x1 x2 x3 x4 x6 o_t0 t1 t2 M) (K : ∀ M1, Q M1 → y_S n M1 → R M1 → Post M1) : P_X12_sends_89 (n + 40) Post x1 x2 x3 x4 x6 o_t0 t1 t2 M := by
  subst ho_t0
  unfold P_X12_sends_89 at H ⊢
  replace H := z_nne rfl H
  refine z_nn_of rfl ?_
  refine And.intro H.1 ?_
  replace H := H.2
  intro M_13 e_M_13
  replace H := H M_13 e_M_13
  have S_M_13 : y_S n M_13 := by rw [e_M_13]; exact S_sai S_M
  have r_M_13 : R M_13 := by rw [e_M_13]; exact hR.1 _ t0 _ _ h0_t0 h1_t0 h2_t0 r_M
  replace H := z_nne (s_1616_40 S_M_13) H
  refine z_nn_of (s_1616_40 S_M_13) ?_
  refine And.intro H.1 ?_
  replace H := H.2
  replace H := z_nne (s_1604_40 S_M_13) H
  refine z_nn_of (s_1604_40 S_M_13) ?_
  refine And.intro H.1 ?_
  replace H := H.2
  intro M_20 e_M_20
  replace H := H M_20 e_M_20
  have S_M_20 : y_S n M_20 := by rw [e_M_20]; exact S_sai S_M_13
  have r_M_20 : R M_20 := by rw [e_M_20]; exact hR.1 _ 82 _ _ (by decide) (by decide) (by decide) r_M_13
  replace H := z_nne (s_1616_40 S_M_20) H
  refine z_nn_of (s_1616_40 S_M_20) ?_
  refine And.intro H.1 ?_
  replace H := H.2
  refine And.intro H.1 ?_
  replace H := H.2
  intro M_25 e_M_25
  replace H := H M_25 e_M_25
  have S_M_25 : y_S n M_25 := by rw [e_M_25]; exact S_sai S_M_20
  have r_M_25 : R M_25 := by rw [e_M_25]; exact hR.1 _ 93 _ _ (by decide) (by decide) (by decide) r_M_20
  replace H := z_nne (s_1620_40 S_M_25) H
  refine z_nn_of (s_1620_40 S_M_25) ?_
  refine And.intro H.1 ?_
  replace H := H.2
  replace H := z_nne (s_1605_40 S_M_25) H
  refine z_nn_of (s_1605_40 S_M_25) ?_
  refine And.intro H.1 ?_
  replace H := H.2
  intro M_32 e_M_32
  replace H := H M_32 e_M_32
  have S_M_32 : y_S n M_32 := by rw [e_M_32]; exact S_sai S_M_25
  have r_M_32 : R M_32 := by rw [e_M_32]; exact hR.1 _ 83 _ _ (by decide) (by decide) (by decide) r_M_25
  replace H := z_nne (s_1618_40 S_M_32) H
  refine z_nn_of (s_1618_40 S_M_32) ?_
  refine And.intro H.1 ?_
  replace H := H.2
  intro M_37 e_M_37
  replace H := H M_37 e_M_37
  have S_M_37 : y_S n M_37 := by rw [e_M_37]; exact S_sai S_M_32
  have r_M_37 : R M_37 := by rw [e_M_37]; exact hR.1 _ 95 _ _ (by decide) (by decide) (by decide) r_M_32
  obtain ⟨m, H⟩ := H
  refine ⟨m, ?_⟩
  exact mQ_sends_139 hR m S_M_37 r_M_37 H K
set_option maxRecDepth 100000 in
set_option maxHeartbeats 4000000 in
theorem mQ_sends {n : Nat} {R : z_Mem → Prop} (hR : y_mQ n R) {Q Post : z_Mem → Prop} {p1 : Int32} {p2 : Int32} {p3 : Int32} {p4 : Int32} {p5 : Int32} {M : z_Mem} (S_M : y_S n M) (r_M : R M) (H : P_X12_sends (n + 40) p1 p2 p3 p4 p5 M Q) (K : ∀ M1, Q M1 → y_S n M1 → R M1 → Post M1) : P_X12_sends (n + 40) p1 p2 p3 p4 p5 M Post := by
  unfold P_X12_sends at H ⊢
  intro x_40 e_x_40
  replace H := H x_40 e_x_40
  replace H := z_nne (s_1593_40 S_M) H
  refine z_nn_of (s_1593_40 S_M) ?_
  refine And.intro H.1 ?_
  replace H := H.2
  intro M_44 e_M_44
  replace H := H M_44 e_M_44
  have S_M_44 : y_S n M_44 := by rw [e_M_44]; exact S_sai S_M
  have r_M_44 : R M_44 := by rw [e_M_44]; exact hR.1 _ 71 _ _ (by decide) (by decide) (by decide) r_M
  replace H := z_nne (s_1594_40 S_M_44) H
  refine z_nn_of (s_1594_40 S_M_44) ?_
  refine And.intro H.1 ?_
  replace H := H.2
  intro M_49 e_M_49
  replace H := H M_49 e_M_49
  have S_M_49 : y_S n M_49 := by rw [e_M_49]; exact S_sai S_M_44
  have r_M_49 : R M_49 := by rw [e_M_49]; exact hR.1 _ 72 _ _ (by decide) (by decide) (by decide) r_M_44
  replace H := z_nne (s_1595_40 S_M_49) H
  refine z_nn_of (s_1595_40 S_M_49) ?_
  refine And.intro H.1 ?_
  replace H := H.2
  intro M_53 e_M_53
  replace H := H M_53 e_M_53
  have S_M_53 : y_S n M_53 := by rw [e_M_53]; exact S_sai S_M_49
  have r_M_53 : R M_53 := by rw [e_M_53]; exact hR.1 _ 73 _ _ (by decide) (by decide) (by decide) r_M_49
  replace H := z_nne (s_1596_40 S_M_53) H
  refine z_nn_of (s_1596_40 S_M_53) ?_
  refine And.intro H.1 ?_
  replace H := H.2
  intro M_57 e_M_57
  replace H := H M_57 e_M_57
  have S_M_57 : y_S n M_57 := by rw [e_M_57]; exact S_sai S_M_53
  have r_M_57 : R M_57 := by rw [e_M_57]; exact hR.1 _ 74 _ _ (by decide) (by decide) (by decide) r_M_53
  replace H := z_nne (s_1597_40 S_M_57) H
  refine z_nn_of (s_1597_40 S_M_57) ?_
  refine And.intro H.1 ?_
  replace H := H.2
  intro M_61 e_M_61
  replace H := H M_61 e_M_61
  have S_M_61 : y_S n M_61 := by rw [e_M_61]; exact S_sai S_M_57
  have r_M_61 : R M_61 := by rw [e_M_61]; exact hR.1 _ 75 _ _ (by decide) (by decide) (by decide) r_M_57
  replace H := z_nne (s_1600_40 S_M_61) H
  refine z_nn_of (s_1600_40 S_M_61) ?_
  refine And.intro H.1 ?_
  replace H := H.2
  intro M_66 e_M_66
  replace H := H M_66 e_M_66
  have S_M_66 : y_S n M_66 := by rw [e_M_66]; exact S_sai S_M_61
  have r_M_66 : R M_66 := by rw [e_M_66]; exact hR.1 _ 78 _ _ (by decide) (by decide) (by decide) r_M_61
  replace H := z_nne (s_1601_40 S_M_66) H
  refine z_nn_of (s_1601_40 S_M_66) ?_
  refine And.intro H.1 ?_
  replace H := H.2
  intro M_70 e_M_70
  replace H := H M_70 e_M_70
  have S_M_70 : y_S n M_70 := by rw [e_M_70]; exact S_sai S_M_66
  have r_M_70 : R M_70 := by rw [e_M_70]; exact hR.1 _ 79 _ _ (by decide) (by decide) (by decide) r_M_66
  refine And.intro (fun c1 => ?_) (fun c1 => ?_)
  · replace H := H.1 c1
    exact mQ_sends_89 hR (by decide) (by decide) (by decide) (s_1602_40 S_M_70) S_M_70 r_M_70 H K
  · replace H := H.2 c1
    exact mQ_sends_89 hR (by decide) (by decide) (by decide) (s_1602_40 S_M_70) S_M_70 r_M_70 H K
set_option maxRecDepth 100000 in
set_option maxHeartbeats 4000000 in
theorem mQ_isLost {n : Nat} {R : z_Mem → Prop} (hR : y_mQ n R) {Q Post : Int32 → z_Mem → Prop} {p1 : Int32} {p2 : Int32} {M : z_Mem} (S_M : y_S n M) (r_M : R M) (H : P_X12_isLost (n + 40) p1 p2 M Q) (K : ∀ x M1, Q x M1 → y_S n M1 → R M1 → Post x M1) : P_X12_isLost (n + 40) p1 p2 M Post := by
  unfold P_X12_isLost at H ⊢
  replace H := z_nne (s_1587_40 S_M) H
  refine z_nn_of (s_1587_40 S_M) ?_
  refine And.intro H.1 ?_
  replace H := H.2
  refine And.intro (fun c1 => ?_) (fun c1 => ?_)
  · replace H := H.1 c1
    exact K _ _ H S_M r_M
  · replace H := H.2 c1
    replace H := z_nne (s_1591_40 S_M) H
    refine z_nn_of (s_1591_40 S_M) ?_
    refine And.intro H.1 ?_
    replace H := H.2
    refine And.intro (fun c2 => ?_) (fun c2 => ?_)
    · replace H := H.1 c2
      replace H := z_nne (s_1592_40 S_M) H
      refine z_nn_of (s_1592_40 S_M) ?_
      refine And.intro H.1 ?_
      replace H := H.2
      refine And.intro (fun c3 => ?_) (fun c3 => ?_)
      · replace H := H.1 c3
        exact K _ _ H S_M r_M
      · replace H := H.2 c3
        exact K _ _ H S_M r_M
    · replace H := H.2 c2
      exact K _ _ H S_M r_M
set_option maxRecDepth 100000 in
set_option maxHeartbeats 4000000 in
theorem mQ_firstLost_2 {n : Nat} {R : z_Mem → Prop} (hR : y_mQ n R) {Q Post : Int32 → z_Mem → Prop} : ∀ (m : Nat) {x1 : Int32} {x2 : Int32} {M : z_Mem} (S_M : y_S n M) (r_M : R M) (H : P_X12_firstLost_2 (n + 40) Q m x1 x2 M) (K : ∀ x M1, Q x M1 → y_S n M1 → R M1 → Post x M1), P_X12_firstLost_2 (n + 40) Post m x1 x2 M := by
  intro m
  induction m with
  | zero => intros; rename_i H _; exact False.elim H
  | succ m ih =>
    intro x1 x2 M S_M r_M H K
    unfold P_X12_firstLost_2 at H ⊢
    replace H := z_nne (s_1587_40 S_M) H
    refine z_nn_of (s_1587_40 S_M) ?_
    refine And.intro H.1 ?_
    replace H := H.2
    refine And.intro (fun c1 => ?_) (fun c1 => ?_)
    · replace H := H.1 c1
      exact K _ _ H S_M r_M
    · replace H := H.2 c1
      refine mQ_isLost hR S_M r_M H (fun x_5 M_5 H S_M_5 r_M_5 => ?_)
      refine And.intro (fun c2 => ?_) (fun c2 => ?_)
      · replace H := H.1 c2
        intro x_7 e_x_7
        replace H := H x_7 e_x_7
        exact ih S_M_5 r_M_5 H K
      · replace H := H.2 c2
        exact K _ _ H S_M_5 r_M_5
set_option maxRecDepth 100000 in
set_option maxHeartbeats 4000000 in
theorem mQ_firstLost {n : Nat} {R : z_Mem → Prop} (hR : y_mQ n R) {Q Post : Int32 → z_Mem → Prop} {p1 : Int32} {M : z_Mem} (S_M : y_S n M) (r_M : R M) (H : P_X12_firstLost (n + 40) p1 M Q) (K : ∀ x M1, Q x M1 → y_S n M1 → R M1 → Post x M1) : P_X12_firstLost (n + 40) p1 M Post := by
  unfold P_X12_firstLost at H ⊢
  obtain ⟨m, H⟩ := H
  refine ⟨m, ?_⟩
  exact mQ_firstLost_2 hR m S_M r_M H K
set_option maxRecDepth 100000 in
set_option maxHeartbeats 4000000 in
theorem mQ_sentInAll {n : Nat} {R : z_Mem → Prop} (hR : y_mQ n R) {Q Post : Int32 → z_Mem → Prop} {M : z_Mem} (S_M : y_S n M) (r_M : R M) (H : P_X12_sentInAll (n + 40) M Q) (K : ∀ x M1, Q x M1 → y_S n M1 → R M1 → Post x M1) : P_X12_sentInAll (n + 40) M Post := by
  unfold P_X12_sentInAll at H ⊢
  replace H := z_nne (s_1587_40 S_M) H
  refine z_nn_of (s_1587_40 S_M) ?_
  refine And.intro H.1 ?_
  replace H := H.2
  replace H := z_nne (s_1587_40 S_M) H
  refine z_nn_of (s_1587_40 S_M) ?_
  refine And.intro H.1 ?_
  replace H := H.2
  replace H := z_nne (s_1587_40 S_M) H
  refine z_nn_of (s_1587_40 S_M) ?_
  refine And.intro H.1 ?_
  replace H := H.2
  replace H := z_nne (s_1587_40 S_M) H
  refine z_nn_of (s_1587_40 S_M) ?_
  refine And.intro H.1 ?_
  replace H := H.2
  exact K _ _ H S_M r_M
set_option maxRecDepth 100000 in
set_option maxHeartbeats 4000000 in
theorem mQ_newOf_49 {n : Nat} {R : z_Mem → Prop} (hR : y_mQ n R) {Q Post : Int32 → z_Mem → Prop} {x4 : Int32} {t0 : Int32} {M : z_Mem} (S_M : y_S n M) (r_M : R M) (H : P_X12_newOf_49 (n + 40) Q x4 t0 M) (K : ∀ x M1, Q x M1 → y_S n M1 → R M1 → Post x M1) : P_X12_newOf_49 (n + 40) Post x4 t0 M := by
  unfold P_X12_newOf_49 at H ⊢
  refine And.intro (fun c1 => ?_) (fun c1 => ?_)
  · replace H := H.1 c1
    refine And.intro (fun c2 => ?_) (fun c2 => ?_)
    · replace H := H.1 c2
      exact K _ _ H S_M r_M
    · replace H := H.2 c2
      exact K _ _ H S_M r_M
  · replace H := H.2 c1
    refine And.intro (fun c3 => ?_) (fun c3 => ?_)
    · replace H := H.1 c3
      exact K _ _ H S_M r_M
    · replace H := H.2 c3
      exact K _ _ H S_M r_M
set_option maxRecDepth 100000 in
set_option maxHeartbeats 4000000 in
theorem mQ_newOf {n : Nat} {R : z_Mem → Prop} (hR : y_mQ n R) {Q Post : Int32 → z_Mem → Prop} {p1 : Int32} {M : z_Mem} (S_M : y_S n M) (r_M : R M) (H : P_X12_newOf (n + 40) p1 M Q) (K : ∀ x M1, Q x M1 → y_S n M1 → R M1 → Post x M1) : P_X12_newOf (n + 40) p1 M Post := by
  unfold P_X12_newOf at H ⊢
  replace H := z_nne (s_1586_40 S_M) H
  refine z_nn_of (s_1586_40 S_M) ?_
  refine And.intro H.1 ?_
  replace H := H.2
  replace H := z_nne (s_1587_40 S_M) H
  refine z_nn_of (s_1587_40 S_M) ?_
  refine And.intro H.1 ?_
  replace H := H.2
  intro x_10 e_x_10
  replace H := H x_10 e_x_10
  replace H := z_nne (s_1588_40 S_M) H
  refine z_nn_of (s_1588_40 S_M) ?_
  refine And.intro H.1 ?_
  replace H := H.2
  replace H := z_nne (s_1587_40 S_M) H
  refine z_nn_of (s_1587_40 S_M) ?_
  refine And.intro H.1 ?_
  replace H := H.2
  intro x_17 e_x_17
  replace H := H x_17 e_x_17
  refine mQ_sentInAll hR S_M r_M H (fun x_19 M_19 H S_M_19 r_M_19 => ?_)
  intro x_20 e_x_20
  replace H := H x_20 e_x_20
  refine And.intro (fun c1 => ?_) (fun c1 => ?_)
  · replace H := H.1 c1
    exact mQ_newOf_49 hR S_M_19 r_M_19 H K
  · replace H := H.2 c1
    exact mQ_newOf_49 hR S_M_19 r_M_19 H K
set_option maxRecDepth 100000 in
set_option maxHeartbeats 4000000 in
theorem mQ_canTake_52 {n : Nat} {R : z_Mem → Prop} (hR : y_mQ n R) {Q Post : Int32 → z_Mem → Prop} {x1 : Int32} {x3 : Int32} {M : z_Mem} (S_M : y_S n M) (r_M : R M) (H : P_X12_canTake_52 (n + 40) Q x1 x3 M) (K : ∀ x M1, Q x M1 → y_S n M1 → R M1 → Post x M1) : P_X12_canTake_52 (n + 40) Post x1 x3 M := by
  unfold P_X12_canTake_52 at H ⊢
  refine mQ_inFlight hR S_M r_M H (fun x_1 M_1 H S_M_1 r_M_1 => ?_)
  replace H := z_nne (s_1607_40 S_M_1) H
  refine z_nn_of (s_1607_40 S_M_1) ?_
  refine And.intro H.1 ?_
  replace H := H.2
  refine And.intro (fun c1 => ?_) (fun c1 => ?_)
  · replace H := H.1 c1
    exact K _ _ H S_M_1 r_M_1
  · replace H := H.2 c1
    replace H := z_nne (s_1628_40 S_M_1) H
    refine z_nn_of (s_1628_40 S_M_1) ?_
    refine And.intro H.1 ?_
    replace H := H.2
    refine And.intro (fun c2 => ?_) (fun c2 => ?_)
    · replace H := H.1 c2
      exact K _ _ H S_M_1 r_M_1
    · replace H := H.2 c2
      exact K _ _ H S_M_1 r_M_1
set_option maxRecDepth 100000 in
set_option maxHeartbeats 4000000 in
theorem mQ_canTake {n : Nat} {R : z_Mem → Prop} (hR : y_mQ n R) {Q Post : Int32 → z_Mem → Prop} {p1 : Int32} {M : z_Mem} (S_M : y_S n M) (r_M : R M) (H : P_X12_canTake (n + 40) p1 M Q) (K : ∀ x M1, Q x M1 → y_S n M1 → R M1 → Post x M1) : P_X12_canTake (n + 40) p1 M Post := by
  unfold P_X12_canTake at H ⊢
  replace H := z_nne (s_1610_40 S_M) H
  refine z_nn_of (s_1610_40 S_M) ?_
  refine And.intro H.1 ?_
  replace H := H.2
  refine mQ_max hR S_M r_M H (fun x_13 M_13 H S_M_13 r_M_13 => ?_)
  replace H := z_nne (s_1607_40 S_M_13) H
  refine z_nn_of (s_1607_40 S_M_13) ?_
  refine And.intro H.1 ?_
  replace H := H.2
  refine And.intro H.1 ?_
  replace H := H.2
  refine mQ_max hR S_M_13 r_M_13 H (fun x_18 M_18 H S_M_18 r_M_18 => ?_)
  refine And.intro (fun c1 => ?_) (fun c1 => ?_)
  · replace H := H.1 c1
    exact mQ_canTake_52 hR S_M_18 r_M_18 H K
  · replace H := H.2 c1
    refine And.intro (fun c2 => ?_) (fun c2 => ?_)
    · replace H := H.1 c2
      exact mQ_canTake_52 hR S_M_18 r_M_18 H K
    · replace H := H.2 c2
      exact K _ _ H S_M_18 r_M_18
set_option maxRecDepth 100000 in
set_option maxHeartbeats 4000000 in
theorem mQ_nextPath {n : Nat} {R : z_Mem → Prop} (hR : y_mQ n R) {Q Post : Int32 → z_Mem → Prop} {M : z_Mem} (S_M : y_S n M) (r_M : R M) (H : P_X12_nextPath (n + 40) M Q) (K : ∀ x M1, Q x M1 → y_S n M1 → R M1 → Post x M1) : P_X12_nextPath (n + 40) M Post := by
  unfold P_X12_nextPath at H ⊢
  refine mQ_canTake hR S_M r_M H (fun x_1 M_1 H S_M_1 r_M_1 => ?_)
  refine mQ_canTake hR S_M_1 r_M_1 H (fun x_2 M_2 H S_M_2 r_M_2 => ?_)
  refine And.intro (fun c1 => ?_) (fun c1 => ?_)
  · replace H := H.1 c1
    refine And.intro (fun c2 => ?_) (fun c2 => ?_)
    · replace H := H.1 c2
      refine And.intro (fun c3 => ?_) (fun c3 => ?_)
      · replace H := H.1 c3
        exact K _ _ H S_M_2 r_M_2
      · replace H := H.2 c3
        exact K _ _ H S_M_2 r_M_2
    · replace H := H.2 c2
      exact K _ _ H S_M_2 r_M_2
  · replace H := H.2 c1
    refine And.intro (fun c4 => ?_) (fun c4 => ?_)
    · replace H := H.1 c4
      refine And.intro (fun c5 => ?_) (fun c5 => ?_)
      · replace H := H.1 c5
        refine And.intro (fun c6 => ?_) (fun c6 => ?_)
        · replace H := H.1 c6
          exact K _ _ H S_M_2 r_M_2
        · replace H := H.2 c6
          exact K _ _ H S_M_2 r_M_2
      · replace H := H.2 c5
        exact K _ _ H S_M_2 r_M_2
    · replace H := H.2 c4
      refine mQ_inFlight hR S_M_2 r_M_2 H (fun x_9 M_9 H S_M_9 r_M_9 => ?_)
      refine mQ_inFlight hR S_M_9 r_M_9 H (fun x_10 M_10 H S_M_10 r_M_10 => ?_)
      refine And.intro (fun c7 => ?_) (fun c7 => ?_)
      · replace H := H.1 c7
        exact K _ _ H S_M_10 r_M_10
      · replace H := H.2 c7
        exact K _ _ H S_M_10 r_M_10
set_option maxRecDepth 100000 in
set_option maxHeartbeats 4000000 in
theorem mQ_sendsNext_21 {n : Nat} {R : z_Mem → Prop} (hR : y_mQ n R) {Q Post : Int32 → z_Mem → Prop} : ∀ (m : Nat) {x1 : Int32} {x2 : Int32} {x3 : Int32} {x4 : Int32} {M : z_Mem} (S_M : y_S n M) (r_M : R M) (H : P_X12_sendsNext_21 (n + 40) Q m x1 x2 x3 x4 M) (K : ∀ x M1, Q x M1 → y_S n M1 → R M1 → Post x M1), P_X12_sendsNext_21 (n + 40) Post m x1 x2 x3 x4 M := by
  intro m
  induction m with
  | zero => intros; rename_i H _; exact False.elim H
  | succ m ih =>
    intro x1 x2 x3 x4 M S_M r_M H K
    unfold P_X12_sendsNext_21 at H ⊢
    refine And.intro (fun c1 => ?_) (fun c1 => ?_)
    · replace H := H.1 c1
      refine mQ_sends hR S_M r_M H (fun M_2 H S_M_2 r_M_2 => ?_)
      exact K _ _ H S_M_2 r_M_2
    · replace H := H.2 c1
      refine And.intro (fun c2 => ?_) (fun c2 => ?_)
      · replace H := H.1 c2
        refine mQ_sends hR S_M r_M H (fun M_4 H S_M_4 r_M_4 => ?_)
        exact K _ _ H S_M_4 r_M_4
      · replace H := H.2 c2
        refine mQ_isLost hR S_M r_M H (fun x_5 M_5 H S_M_5 r_M_5 => ?_)
        refine And.intro (fun c3 => ?_) (fun c3 => ?_)
        · replace H := H.1 c3
          refine mQ_sends hR S_M_5 r_M_5 H (fun M_7 H S_M_7 r_M_7 => ?_)
          exact K _ _ H S_M_7 r_M_7
        · replace H := H.2 c3
          intro x_8 e_x_8
          replace H := H x_8 e_x_8
          exact ih S_M_5 r_M_5 H K
set_option maxRecDepth 100000 in
set_option maxHeartbeats 4000000 in
theorem mQ_sendsNext_76 {n : Nat} {R : z_Mem → Prop} (hR : y_mQ n R) {Q Post : Int32 → z_Mem → Prop} : ∀ (m : Nat) {x1 : Int32} {x2 : Int32} {M : z_Mem} (S_M : y_S n M) (r_M : R M) (H : P_X12_sendsNext_76 (n + 40) Q m x1 x2 M) (K : ∀ x M1, Q x M1 → y_S n M1 → R M1 → Post x M1), P_X12_sendsNext_76 (n + 40) Post m x1 x2 M := by
  intro m
  induction m with
  | zero => intros; rename_i H _; exact False.elim H
  | succ m ih =>
    intro x1 x2 M S_M r_M H K
    unfold P_X12_sendsNext_76 at H ⊢
    refine And.intro (fun c1 => ?_) (fun c1 => ?_)
    · replace H := H.1 c1
      exact K _ _ H S_M r_M
    · replace H := H.2 c1
      intro x_11 e_x_11
      replace H := H x_11 e_x_11
      refine mQ_newOf hR S_M r_M H (fun x_12 M_12 H S_M_12 r_M_12 => ?_)
      refine And.intro (fun c2 => ?_) (fun c2 => ?_)
      · replace H := H.1 c2
        intro x_14 e_x_14
        replace H := H x_14 e_x_14
        exact ih S_M_12 r_M_12 H K
      · replace H := H.2 c2
        replace H := z_nne (s_1587_40 S_M_12) H
        refine z_nn_of (s_1587_40 S_M_12) ?_
        refine And.intro H.1 ?_
        replace H := H.2
        refine And.intro H.1 ?_
        replace H := H.2
        intro M_19 e_M_19
        replace H := H M_19 e_M_19
        have S_M_19 : y_S n M_19 := by rw [e_M_19]; exact S_sai S_M_12
        have r_M_19 : R M_19 := by rw [e_M_19]; exact hR.1 _ 67 _ _ (by decide) (by decide) (by decide) r_M_12
        intro M_20 e_M_20
        replace H := H M_20 e_M_20
        have S_M_20 : y_S n M_20 := by rw [e_M_20]; exact S_sfi S_M_19
        have r_M_20 : R M_20 := by rw [e_M_20]; exact hR.2.2 _ 1590 _ (by decide) r_M_19
        replace H := z_nne (s_1587_40 S_M_20) H
        refine z_nn_of (s_1587_40 S_M_20) ?_
        refine And.intro H.1 ?_
        replace H := H.2
        refine mQ_sends hR S_M_20 r_M_20 H (fun M_24 H S_M_24 r_M_24 => ?_)
        exact K _ _ H S_M_24 r_M_24
set_option maxRecDepth 100000 in
set_option maxHeartbeats 4000000 in
theorem mQ_sendsNext_2 {n : Nat} {R : z_Mem → Prop} (hR : y_mQ n R) {Q Post : Int32 → z_Mem → Prop} : ∀ (m : Nat) {x1 : Int32} {x2 : Int32} {M : z_Mem} (S_M : y_S n M) (r_M : R M) (H : P_X12_sendsNext_2 (n + 40) Q m x1 x2 M) (K : ∀ x M1, Q x M1 → y_S n M1 → R M1 → Post x M1), P_X12_sendsNext_2 (n + 40) Post m x1 x2 M := by
  intro m
  induction m with
  | zero => intros; rename_i H _; exact False.elim H
  | succ m ih =>
    intro x1 x2 M S_M r_M H K
    unfold P_X12_sendsNext_2 at H ⊢
    refine And.intro (fun c1 => ?_) (fun c1 => ?_)
    · replace H := H.1 c1
      obtain ⟨m, H⟩ := H
      refine ⟨m, ?_⟩
      exact mQ_sendsNext_76 hR m S_M r_M H K
    · replace H := H.2 c1
      refine mQ_firstLost hR S_M r_M H (fun x_27 M_27 H S_M_27 r_M_27 => ?_)
      refine And.intro (fun c2 => ?_) (fun c2 => ?_)
      · replace H := H.1 c2
        intro x_29 e_x_29
        replace H := H x_29 e_x_29
        exact ih S_M_27 r_M_27 H K
      · replace H := H.2 c2
        obtain ⟨m, H⟩ := H
        refine ⟨m, ?_⟩
        exact mQ_sendsNext_21 hR m S_M_27 r_M_27 H K
set_option maxRecDepth 100000 in
set_option maxHeartbeats 4000000 in
theorem mQ_sendsNext {n : Nat} {R : z_Mem → Prop} (hR : y_mQ n R) {Q Post : Int32 → z_Mem → Prop} {p1 : Int32} {M : z_Mem} (S_M : y_S n M) (r_M : R M) (H : P_X12_sendsNext (n + 40) p1 M Q) (K : ∀ x M1, Q x M1 → y_S n M1 → R M1 → Post x M1) : P_X12_sendsNext (n + 40) p1 M Post := by
  unfold P_X12_sendsNext at H ⊢
  obtain ⟨m, H⟩ := H
  refine ⟨m, ?_⟩
  exact mQ_sendsNext_2 hR m S_M r_M H K
set_option maxRecDepth 100000 in
set_option maxHeartbeats 4000000 in
theorem mQ_sendsAll_100 {n : Nat} {R : z_Mem → Prop} (hR : y_mQ n R) {Q Post : z_Mem → Prop} {QJ44 PJ44 : Int32 → z_Mem → Prop} {x1 : Int32} {M : z_Mem} (S_M : y_S n M) (r_M : R M) (H : P_X12_sendsAll_100 (n + 40) Q QJ44 x1 M) (K : ∀ M1, Q M1 → y_S n M1 → R M1 → Post M1) (KJ44 : ∀ v0 M1, QJ44 v0 M1 → y_S n M1 → R M1 → PJ44 v0 M1) : P_X12_sendsAll_100 (n + 40) Post PJ44 x1 M := by
  unfold P_X12_sendsAll_100 at H ⊢
  exact KJ44 _ _ H S_M r_M
set_option maxRecDepth 100000 in
set_option maxHeartbeats 4000000 in
theorem mQ_sendsAll_85 {n : Nat} {R : z_Mem → Prop} (hR : y_mQ n R) {Q Post : z_Mem → Prop} {QJ44 PJ44 : Int32 → z_Mem → Prop} {x2 : Int32} {t0 : Int32} {M : z_Mem} (S_M : y_S n M) (r_M : R M) (H : P_X12_sendsAll_85 (n + 40) Q QJ44 x2 t0 M) (K : ∀ M1, Q M1 → y_S n M1 → R M1 → Post M1) (KJ44 : ∀ v0 M1, QJ44 v0 M1 → y_S n M1 → R M1 → PJ44 v0 M1) : P_X12_sendsAll_85 (n + 40) Post PJ44 x2 t0 M := by
  unfold P_X12_sendsAll_85 at H ⊢
  refine And.intro (fun c1 => ?_) (fun c1 => ?_)
  · replace H := H.1 c1
    exact mQ_sendsAll_100 hR S_M r_M H K KJ44
  · replace H := H.2 c1
    replace H := z_nne (s_1628_40 S_M) H
    refine z_nn_of (s_1628_40 S_M) ?_
    refine And.intro H.1 ?_
    replace H := H.2
    refine And.intro H.1 ?_
    replace H := H.2
    intro M_6 e_M_6
    replace H := H M_6 e_M_6
    have S_M_6 : y_S n M_6 := by rw [e_M_6]; exact S_sai S_M
    have r_M_6 : R M_6 := by rw [e_M_6]; exact hR.1 _ 105 _ _ (by decide) (by decide) (by decide) r_M
    exact mQ_sendsAll_100 hR S_M_6 r_M_6 H K KJ44
set_option maxRecDepth 100000 in
set_option maxHeartbeats 4000000 in
theorem mQ_sendsAll_84 {n : Nat} {R : z_Mem → Prop} (hR : y_mQ n R) {Q Post : z_Mem → Prop} {QJ44 PJ44 : Int32 → z_Mem → Prop} {x2 : Int32} {M : z_Mem} (S_M : y_S n M) (r_M : R M) (H : P_X12_sendsAll_84 (n + 40) Q QJ44 x2 M) (K : ∀ M1, Q M1 → y_S n M1 → R M1 → Post M1) (KJ44 : ∀ v0 M1, QJ44 v0 M1 → y_S n M1 → R M1 → PJ44 v0 M1) : P_X12_sendsAll_84 (n + 40) Post PJ44 x2 M := by
  unfold P_X12_sendsAll_84 at H ⊢
  exact mQ_sendsAll_85 hR S_M r_M H K KJ44
set_option maxRecDepth 100000 in
set_option maxHeartbeats 4000000 in
theorem mQ_sendsAll_66 {n : Nat} {R : z_Mem → Prop} (hR : y_mQ n R) {Q Post : z_Mem → Prop} {QJ44 PJ44 : Int32 → z_Mem → Prop} {t0 : Int32} {M : z_Mem} (S_M : y_S n M) (r_M : R M) (H : P_X12_sendsAll_66 (n + 40) Q QJ44 t0 M) (K : ∀ M1, Q M1 → y_S n M1 → R M1 → Post M1) (KJ44 : ∀ v0 M1, QJ44 v0 M1 → y_S n M1 → R M1 → PJ44 v0 M1) : P_X12_sendsAll_66 (n + 40) Post PJ44 t0 M := by
  unfold P_X12_sendsAll_66 at H ⊢
  refine And.intro (fun c1 => ?_) (fun c1 => ?_)
  · replace H := H.1 c1
    exact mQ_sendsAll_84 hR S_M r_M H K KJ44
  · replace H := H.2 c1
    refine mQ_sendsNext hR S_M r_M H (fun x_8 M_8 H S_M_8 r_M_8 => ?_)
    refine And.intro (fun c2 => ?_) (fun c2 => ?_)
    · replace H := H.1 c2
      exact mQ_sendsAll_84 hR S_M_8 r_M_8 H K KJ44
    · replace H := H.2 c2
      exact mQ_sendsAll_85 hR S_M_8 r_M_8 H K KJ44
set_option maxRecDepth 100000 in
set_option maxHeartbeats 4000000 in
theorem mQ_sendsAll_44 {n : Nat} {R : z_Mem → Prop} (hR : y_mQ n R) {Q Post : z_Mem → Prop} : ∀ (m : Nat) {x1 : Int32} {M : z_Mem} (S_M : y_S n M) (r_M : R M) (H : P_X12_sendsAll_44 (n + 40) Q m x1 M) (K : ∀ M1, Q M1 → y_S n M1 → R M1 → Post M1), P_X12_sendsAll_44 (n + 40) Post m x1 M := by
  intro m
  induction m with
  | zero => intros; rename_i H _; exact False.elim H
  | succ m ih =>
    intro x1 M S_M r_M H K
    unfold P_X12_sendsAll_44 at H ⊢
    refine And.intro (fun c1 => ?_) (fun c1 => ?_)
    · replace H := H.1 c1
      exact K _ H S_M r_M
    · replace H := H.2 c1
      refine And.intro (fun c2 => ?_) (fun c2 => ?_)
      · replace H := H.1 c2
        exact mQ_sendsAll_66 hR S_M r_M H K (fun v0 M1 q S u => ih S u q K)
      · replace H := H.2 c2
        refine mQ_nextPath hR S_M r_M H (fun x_13 M_13 H S_M_13 r_M_13 => ?_)
        exact mQ_sendsAll_66 hR S_M_13 r_M_13 H K (fun v0 M1 q S u => ih S u q K)
set_option maxRecDepth 100000 in
set_option maxHeartbeats 4000000 in
theorem mQ_sendsAll_43 {n : Nat} {R : z_Mem → Prop} (hR : y_mQ n R) {Q Post : z_Mem → Prop} {t0 : Int32} {M : z_Mem} (S_M : y_S n M) (r_M : R M) (H : P_X12_sendsAll_43 (n + 40) Q t0 M) (K : ∀ M1, Q M1 → y_S n M1 → R M1 → Post M1) : P_X12_sendsAll_43 (n + 40) Post t0 M := by
  unfold P_X12_sendsAll_43 at H ⊢
  obtain ⟨m, H⟩ := H
  refine ⟨m, ?_⟩
  exact mQ_sendsAll_44 hR m S_M r_M H K
set_option maxRecDepth 100000 in
set_option maxHeartbeats 4000000 in
theorem mQ_sendsAll_38 {n : Nat} {R : z_Mem → Prop} (hR : y_mQ n R) {Q Post : z_Mem → Prop} {M : z_Mem} (S_M : y_S n M) (r_M : R M) (H : P_X12_sendsAll_38 (n + 40) Q M) (K : ∀ M1, Q M1 → y_S n M1 → R M1 → Post M1) : P_X12_sendsAll_38 (n + 40) Post M := by
  unfold P_X12_sendsAll_38 at H ⊢
  exact mQ_sendsAll_43 hR S_M r_M H K
set_option maxRecDepth 100000 in
set_option maxHeartbeats 4000000 in
theorem mQ_sendsAll_42 {n : Nat} {R : z_Mem → Prop} (hR : y_mQ n R) {Q Post : z_Mem → Prop} {M : z_Mem} (S_M : y_S n M) (r_M : R M) (H : P_X12_sendsAll_42 (n + 40) Q M) (K : ∀ M1, Q M1 → y_S n M1 → R M1 → Post M1) : P_X12_sendsAll_42 (n + 40) Post M := by
  unfold P_X12_sendsAll_42 at H ⊢
  exact mQ_sendsAll_43 hR S_M r_M H K
set_option maxRecDepth 100000 in
set_option maxHeartbeats 4000000 in
theorem mQ_sendsAll {n : Nat} {R : z_Mem → Prop} (hR : y_mQ n R) {Q Post : z_Mem → Prop} {M : z_Mem} (S_M : y_S n M) (r_M : R M) (H : P_X12_sendsAll (n + 40) M Q) (K : ∀ M1, Q M1 → y_S n M1 → R M1 → Post M1) : P_X12_sendsAll (n + 40) M Post := by
  unfold P_X12_sendsAll at H ⊢
  replace H := z_nne (s_1628_40 S_M) H
  refine z_nn_of (s_1628_40 S_M) ?_
  refine And.intro H.1 ?_
  replace H := H.2
  intro M_18 e_M_18
  replace H := H M_18 e_M_18
  have S_M_18 : y_S n M_18 := by rw [e_M_18]; exact S_sai S_M
  have r_M_18 : R M_18 := by rw [e_M_18]; exact hR.1 _ 105 _ _ (by decide) (by decide) (by decide) r_M
  replace H := z_nne (s_1628_40 S_M_18) H
  refine z_nn_of (s_1628_40 S_M_18) ?_
  refine And.intro H.1 ?_
  replace H := H.2
  intro M_22 e_M_22
  replace H := H M_22 e_M_22
  have S_M_22 : y_S n M_22 := by rw [e_M_22]; exact S_sai S_M_18
  have r_M_22 : R M_22 := by rw [e_M_22]; exact hR.1 _ 105 _ _ (by decide) (by decide) (by decide) r_M_18
  refine And.intro (fun c1 => ?_) (fun c1 => ?_)
  · replace H := H.1 c1
    exact mQ_sendsAll_38 hR S_M_22 r_M_22 H K
  · replace H := H.2 c1
    refine And.intro (fun c2 => ?_) (fun c2 => ?_)
    · replace H := H.1 c2
      refine And.intro (fun c3 => ?_) (fun c3 => ?_)
      · replace H := H.1 c3
        exact mQ_sendsAll_42 hR S_M_22 r_M_22 H K
      · replace H := H.2 c3
        exact mQ_sendsAll_38 hR S_M_22 r_M_22 H K
    · replace H := H.2 c2
      exact mQ_sendsAll_42 hR S_M_22 r_M_22 H K
set_option maxRecDepth 100000 in
set_option maxHeartbeats 4000000 in
theorem mQ_probesOn_37 {n : Nat} {R : z_Mem → Prop} (hR : y_mQ n R) {Q Post : z_Mem → Prop} {QJ9 PJ9 : Int32 → Int32 → Int32 → z_Mem → Prop} {x1 : Int32} {x3 : Int32} {t0 : Int32} {M : z_Mem} (S_M : y_S n M) (r_M : R M) (H : P_X12_probesOn_37 (n + 40) Q QJ9 x1 x3 t0 M) (K : ∀ M1, Q M1 → y_S n M1 → R M1 → Post M1) (KJ9 : ∀ v0 v1 v2 M1, QJ9 v0 v1 v2 M1 → y_S n M1 → R M1 → PJ9 v0 v1 v2 M1) : P_X12_probesOn_37 (n + 40) Post PJ9 x1 x3 t0 M := by
  unfold P_X12_probesOn_37 at H ⊢
  intro x_1 e_x_1
  replace H := H x_1 e_x_1
  exact KJ9 _ _ _ _ H S_M r_M
set_option maxRecDepth 100000 in
set_option maxHeartbeats 4000000 in
theorem mQ_probesOn_36 {n : Nat} {R : z_Mem → Prop} (hR : y_mQ n R) {Q Post : z_Mem → Prop} {QJ9 PJ9 : Int32 → Int32 → Int32 → z_Mem → Prop} {x1 : Int32} {x2 : Int32} {x3 : Int32} {M : z_Mem} (S_M : y_S n M) (r_M : R M) (H : P_X12_probesOn_36 (n + 40) Q QJ9 x1 x2 x3 M) (K : ∀ M1, Q M1 → y_S n M1 → R M1 → Post M1) (KJ9 : ∀ v0 v1 v2 M1, QJ9 v0 v1 v2 M1 → y_S n M1 → R M1 → PJ9 v0 v1 v2 M1) : P_X12_probesOn_36 (n + 40) Post PJ9 x1 x2 x3 M := by
  unfold P_X12_probesOn_36 at H ⊢
  exact mQ_probesOn_37 hR S_M r_M H K KJ9
set_option maxRecDepth 100000 in
set_option maxHeartbeats 4000000 in
theorem mQ_probesOn_88 {n : Nat} {R : z_Mem → Prop} (hR : y_mQ n R) {Q Post : z_Mem → Prop} {x1 : Int32} {x2 : Int32} {t0 : Int32} {t1 : Int32} {M : z_Mem} (S_M : y_S n M) (r_M : R M) (H : P_X12_probesOn_88 (n + 40) Q x1 x2 t0 t1 M) (K : ∀ M1, Q M1 → y_S n M1 → R M1 → Post M1) : P_X12_probesOn_88 (n + 40) Post x1 x2 t0 t1 M := by
  unfold P_X12_probesOn_88 at H ⊢
  intro x_2 e_x_2
  replace H := H x_2 e_x_2
  refine And.intro (fun c1 => ?_) (fun c1 => ?_)
  · replace H := H.1 c1
    exact K _ H S_M r_M
  · replace H := H.2 c1
    refine And.intro (fun c2 => ?_) (fun c2 => ?_)
    · replace H := H.1 c2
      exact K _ H S_M r_M
    · replace H := H.2 c2
      replace H := z_nne (s_1618_40 S_M) H
      refine z_nn_of (s_1618_40 S_M) ?_
      refine And.intro H.1 ?_
      replace H := H.2
      refine And.intro (fun c3 => ?_) (fun c3 => ?_)
      · replace H := H.1 c3
        exact K _ H S_M r_M
      · replace H := H.2 c3
        replace H := z_nne (s_1619_40 S_M) H
        refine z_nn_of (s_1619_40 S_M) ?_
        refine And.intro H.1 ?_
        replace H := H.2
        refine And.intro H.1 ?_
        replace H := H.2
        intro M_15 e_M_15
        replace H := H M_15 e_M_15
        have S_M_15 : y_S n M_15 := by rw [e_M_15]; exact S_sai S_M
        have r_M_15 : R M_15 := by rw [e_M_15]; exact hR.1 _ 96 _ _ (by decide) (by decide) (by decide) r_M
        replace H := z_nne (s_1629_40 S_M_15) H
        refine z_nn_of (s_1629_40 S_M_15) ?_
        refine And.intro H.1 ?_
        replace H := H.2
        refine And.intro H.1 ?_
        replace H := H.2
        intro M_20 e_M_20
        replace H := H M_20 e_M_20
        have S_M_20 : y_S n M_20 := by rw [e_M_20]; exact S_sai S_M_15
        have r_M_20 : R M_20 := by rw [e_M_20]; exact hR.1 _ 106 _ _ (by decide) (by decide) (by decide) r_M_15
        replace H := z_nne (s_1595_40 S_M_20) H
        refine z_nn_of (s_1595_40 S_M_20) ?_
        refine And.intro H.1 ?_
        replace H := H.2
        replace H := z_nne (s_1596_40 S_M_20) H
        refine z_nn_of (s_1596_40 S_M_20) ?_
        refine And.intro H.1 ?_
        replace H := H.2
        replace H := z_nne (s_1597_40 S_M_20) H
        refine z_nn_of (s_1597_40 S_M_20) ?_
        refine And.intro H.1 ?_
        replace H := H.2
        refine mQ_sends hR S_M_20 r_M_20 H (fun M_30 H S_M_30 r_M_30 => ?_)
        exact K _ H S_M_30 r_M_30
set_option maxRecDepth 100000 in
set_option maxHeartbeats 4000000 in
theorem mQ_probesOn_9 {n : Nat} {R : z_Mem → Prop} (hR : y_mQ n R) {Q Post : z_Mem → Prop} : ∀ (m : Nat) {x1 : Int32} {x2 : Int32} {x3 : Int32} {M : z_Mem} (S_M : y_S n M) (r_M : R M) (H : P_X12_probesOn_9 (n + 40) Q m x1 x2 x3 M) (K : ∀ M1, Q M1 → y_S n M1 → R M1 → Post M1), P_X12_probesOn_9 (n + 40) Post m x1 x2 x3 M := by
  intro m
  induction m with
  | zero => intros; rename_i H _; exact False.elim H
  | succ m ih =>
    intro x1 x2 x3 M S_M r_M H K
    unfold P_X12_probesOn_9 at H ⊢
    refine And.intro (fun c1 => ?_) (fun c1 => ?_)
    · replace H := H.1 c1
      replace H := z_nne (s_1610_40 S_M) H
      refine z_nn_of (s_1610_40 S_M) ?_
      refine And.intro H.1 ?_
      replace H := H.2
      replace H := z_nne (s_1611_40 S_M) H
      refine z_nn_of (s_1611_40 S_M) ?_
      refine And.intro H.1 ?_
      replace H := H.2
      refine mQ_max hR S_M r_M H (fun x_38 M_38 H S_M_38 r_M_38 => ?_)
      replace H := z_nne (s_1619_40 S_M_38) H
      refine z_nn_of (s_1619_40 S_M_38) ?_
      refine And.intro H.1 ?_
      replace H := H.2
      refine And.intro (fun c2 => ?_) (fun c2 => ?_)
      · replace H := H.1 c2
        replace H := z_nne (s_1619_40 S_M_38) H
        refine z_nn_of (s_1619_40 S_M_38) ?_
        refine And.intro H.1 ?_
        replace H := H.2
        exact mQ_probesOn_88 hR S_M_38 r_M_38 H K
      · replace H := H.2 c2
        exact mQ_probesOn_88 hR S_M_38 r_M_38 H K
    · replace H := H.2 c1
      replace H := z_nne (s_1593_40 S_M) H
      refine z_nn_of (s_1593_40 S_M) ?_
      refine And.intro H.1 ?_
      replace H := H.2
      refine And.intro (fun c3 => ?_) (fun c3 => ?_)
      · replace H := H.1 c3
        replace H := z_nne (s_1598_40 S_M) H
        refine z_nn_of (s_1598_40 S_M) ?_
        refine And.intro H.1 ?_
        replace H := H.2
        refine And.intro (fun c4 => ?_) (fun c4 => ?_)
        · replace H := H.1 c4
          exact mQ_probesOn_37 hR S_M r_M H K (fun v0 v1 v2 M1 q S u => ih S u q K)
        · replace H := H.2 c4
          exact mQ_probesOn_36 hR S_M r_M H K (fun v0 v1 v2 M1 q S u => ih S u q K)
      · replace H := H.2 c3
        exact mQ_probesOn_36 hR S_M r_M H K (fun v0 v1 v2 M1 q S u => ih S u q K)
set_option maxRecDepth 100000 in
set_option maxHeartbeats 4000000 in
theorem mQ_probesOn {n : Nat} {R : z_Mem → Prop} (hR : y_mQ n R) {Q Post : z_Mem → Prop} {p1 : Int32} {M : z_Mem} (S_M : y_S n M) (r_M : R M) (H : P_X12_probesOn (n + 40) p1 M Q) (K : ∀ M1, Q M1 → y_S n M1 → R M1 → Post M1) : P_X12_probesOn (n + 40) p1 M Post := by
  unfold P_X12_probesOn at H ⊢
  intro x_55 e_x_55
  replace H := H x_55 e_x_55
  obtain ⟨m, H⟩ := H
  refine ⟨m, ?_⟩
  exact mQ_probesOn_9 hR m S_M r_M H K
set_option maxRecDepth 100000 in
set_option maxHeartbeats 4000000 in
theorem mQ_connect_20 {n : Nat} {R : z_Mem → Prop} (hR : y_mQ n R) {Q Post : z_Mem → Prop} {x1 : Int32} {t1 : Int32} {t2 : Int32} {o_t0 : Option Nat} {M : z_Mem} (ho_t0 : o_t0 = some (n + 40)) (S_M : y_S n M) (r_M : R M) (H : P_X12_connect_20 (n + 40) Q x1 o_t0 t1 t2 M) (K : ∀ M1, Q M1 → y_S n M1 → R M1 → Post M1) : P_X12_connect_20 (n + 40) Post x1 o_t0 t1 t2 M := by
  subst ho_t0
  unfold P_X12_connect_20 at H ⊢
  replace H := z_nne rfl H
  refine z_nn_of rfl ?_
  refine mQ_goes hR S_M r_M H (fun x_1 M_1 H S_M_1 r_M_1 => ?_)
  refine And.intro (fun c1 => ?_) (fun c1 => ?_)
  · replace H := H.1 c1
    exact K _ H S_M_1 r_M_1
  · replace H := H.2 c1
    intro M_4 e_M_4
    replace H := H M_4 e_M_4
    have S_M_4 : y_S n M_4 := by rw [e_M_4]; exact S_sfi S_M_1
    have r_M_4 : R M_4 := by rw [e_M_4]; exact hR.2.2 _ 1577 _ (by decide) r_M_1
    intro M_5 e_M_5
    replace H := H M_5 e_M_5
    have S_M_5 : y_S n M_5 := by rw [e_M_5]; exact S_sfi S_M_4
    have r_M_5 : R M_5 := by rw [e_M_5]; exact hR.2.2 _ 1578 _ (by decide) r_M_4
    intro M_6 e_M_6
    replace H := H M_6 e_M_6
    have S_M_6 : y_S n M_6 := by rw [e_M_6]; exact S_sfi S_M_5
    have r_M_6 : R M_6 := by rw [e_M_6]; exact hR.2.2 _ 1581 _ (by decide) r_M_5
    refine mQ_saysHello hR S_M_6 r_M_6 H (fun M_7 H S_M_7 r_M_7 => ?_)
    exact K _ H S_M_7 r_M_7
set_option maxRecDepth 100000 in
set_option maxHeartbeats 4000000 in
theorem mQ_connect {n : Nat} {R : z_Mem → Prop} (hR : y_mQ n R) {Q Post : z_Mem → Prop} {p1 : Int32} {M : z_Mem} (S_M : y_S n M) (r_M : R M) (H : P_X12_connect (n + 40) p1 M Q) (K : ∀ M1, Q M1 → y_S n M1 → R M1 → Post M1) : P_X12_connect (n + 40) p1 M Post := by
  unfold P_X12_connect at H ⊢
  refine mQ_in hR S_M r_M H (fun x_8 M_8 H S_M_8 r_M_8 => ?_)
  refine And.intro (fun c1 => ?_) (fun c1 => ?_)
  · replace H := H.1 c1
    exact mQ_connect_20 hR rfl S_M_8 r_M_8 H K
  · replace H := H.2 c1
    exact mQ_connect_20 hR rfl S_M_8 r_M_8 H K
set_option maxRecDepth 100000 in
set_option maxHeartbeats 4000000 in
theorem mQ_write_49 {n : Nat} {R : z_Mem → Prop} (hR : y_mQ n R) {Q Post : Int32 → z_Mem → Prop} {x1 : Int32} {x2 : Int32} {t1 : Int32} {t2 : Int32} {t3 : Int32} {o_t0 : Option Nat} {M : z_Mem} (ho_t0 : o_t0 = some (n + 40)) (S_M : y_S n M) (r_M : R M) (H : P_X12_write_49 (n + 40) Q x1 x2 o_t0 t1 t2 t3 M) (K : ∀ x M1, Q x M1 → y_S n M1 → R M1 → Post x M1) : P_X12_write_49 (n + 40) Post x1 x2 o_t0 t1 t2 t3 M := by
  subst ho_t0
  unfold P_X12_write_49 at H ⊢
  replace H := z_nne rfl H
  refine z_nn_of rfl ?_
  refine mQ_goes hR S_M r_M H (fun x_1 M_1 H S_M_1 r_M_1 => ?_)
  refine And.intro (fun c1 => ?_) (fun c1 => ?_)
  · replace H := H.1 c1
    exact K _ _ H S_M_1 r_M_1
  · replace H := H.2 c1
    replace H := z_nne (s_1586_40 S_M_1) H
    refine z_nn_of (s_1586_40 S_M_1) ?_
    refine And.intro H.1 ?_
    replace H := H.2
    refine And.intro H.1 ?_
    replace H := H.2
    intro M_8 e_M_8
    replace H := H M_8 e_M_8
    have S_M_8 : y_S n M_8 := by rw [e_M_8]; exact S_sai S_M_1
    have r_M_8 : R M_8 := by rw [e_M_8]; exact hR.1 _ 66 _ _ (by decide) (by decide) (by decide) r_M_1
    replace H := z_nne (s_1586_40 S_M_8) H
    refine z_nn_of (s_1586_40 S_M_8) ?_
    refine And.intro H.1 ?_
    replace H := H.2
    exact K _ _ H S_M_8 r_M_8
set_option maxRecDepth 100000 in
set_option maxHeartbeats 4000000 in
theorem mQ_write_48 {n : Nat} {R : z_Mem → Prop} (hR : y_mQ n R) {Q Post : Int32 → z_Mem → Prop} {x1 : Int32} {x2 : Int32} {t1 : Int32} {t2 : Int32} {o_t0 : Option Nat} {M : z_Mem} (ho_t0 : o_t0 = some (n + 40)) (S_M : y_S n M) (r_M : R M) (H : P_X12_write_48 (n + 40) Q x1 x2 o_t0 t1 t2 M) (K : ∀ x M1, Q x M1 → y_S n M1 → R M1 → Post x M1) : P_X12_write_48 (n + 40) Post x1 x2 o_t0 t1 t2 M := by
  subst ho_t0
  unfold P_X12_write_48 at H ⊢
  exact mQ_write_49 hR rfl S_M r_M H K
set_option maxRecDepth 100000 in
set_option maxHeartbeats 4000000 in
theorem mQ_write {n : Nat} {R : z_Mem → Prop} (hR : y_mQ n R) {Q Post : Int32 → z_Mem → Prop} {p1 : Int32} {p2 : Int32} {M : z_Mem} (S_M : y_S n M) (r_M : R M) (H : P_X12_write (n + 40) p1 p2 M Q) (K : ∀ x M1, Q x M1 → y_S n M1 → R M1 → Post x M1) : P_X12_write (n + 40) p1 p2 M Post := by
  unfold P_X12_write at H ⊢
  refine mQ_isStream hR S_M r_M H (fun x_12 M_12 H S_M_12 r_M_12 => ?_)
  refine mQ_in hR S_M_12 r_M_12 H (fun x_13 M_13 H S_M_13 r_M_13 => ?_)
  refine And.intro (fun c1 => ?_) (fun c1 => ?_)
  · replace H := H.1 c1
    exact mQ_write_48 hR rfl S_M_13 r_M_13 H K
  · replace H := H.2 c1
    refine mQ_in hR S_M_13 r_M_13 H (fun x_15 M_15 H S_M_15 r_M_15 => ?_)
    refine And.intro (fun c2 => ?_) (fun c2 => ?_)
    · replace H := H.1 c2
      exact mQ_write_48 hR rfl S_M_15 r_M_15 H K
    · replace H := H.2 c2
      replace H := z_nne (s_1586_40 S_M_15) H
      refine z_nn_of (s_1586_40 S_M_15) ?_
      refine And.intro H.1 ?_
      replace H := H.2
      refine And.intro (fun c3 => ?_) (fun c3 => ?_)
      · replace H := H.1 c3
        exact mQ_write_48 hR rfl S_M_15 r_M_15 H K
      · replace H := H.2 c3
        exact mQ_write_49 hR rfl S_M_15 r_M_15 H K
set_option maxRecDepth 100000 in
set_option maxHeartbeats 4000000 in
theorem mQ_setWay {n : Nat} {R : z_Mem → Prop} (hR : y_mQ n R) {Q Post : Int32 → z_Mem → Prop} {p1 : Int32} {p2 : Int32} {M : z_Mem} (S_M : y_S n M) (r_M : R M) (H : P_X12_setWay (n + 40) p1 p2 M Q) (K : ∀ x M1, Q x M1 → y_S n M1 → R M1 → Post x M1) : P_X12_setWay (n + 40) p1 p2 M Post := by
  unfold P_X12_setWay at H ⊢
  refine mQ_isPath hR S_M r_M H (fun x_1 M_1 H S_M_1 r_M_1 => ?_)
  refine mQ_in hR S_M_1 r_M_1 H (fun x_2 M_2 H S_M_2 r_M_2 => ?_)
  refine mQ_goes hR S_M_2 r_M_2 H (fun x_3 M_3 H S_M_3 r_M_3 => ?_)
  refine And.intro (fun c1 => ?_) (fun c1 => ?_)
  · replace H := H.1 c1
    exact K _ _ H S_M_3 r_M_3
  · replace H := H.2 c1
    replace H := z_nne (s_1609_40 S_M_3) H
    refine z_nn_of (s_1609_40 S_M_3) ?_
    refine And.intro H.1 ?_
    replace H := H.2
    intro x_8 e_x_8
    replace H := H x_8 e_x_8
    replace H := z_nne (s_1609_40 S_M_3) H
    refine z_nn_of (s_1609_40 S_M_3) ?_
    refine And.intro H.1 ?_
    replace H := H.2
    intro M_12 e_M_12
    replace H := H M_12 e_M_12
    have S_M_12 : y_S n M_12 := by rw [e_M_12]; exact S_sai S_M_3
    have r_M_12 : R M_12 := by rw [e_M_12]; exact hR.1 _ 86 _ _ (by decide) (by decide) (by decide) r_M_3
    exact K _ _ H S_M_12 r_M_12
set_option maxRecDepth 100000 in
set_option maxHeartbeats 4000000 in
theorem mQ_check {n : Nat} {R : z_Mem → Prop} (hR : y_mQ n R) {Q Post : z_Mem → Prop} {p1 : Int32} {M : z_Mem} (S_M : y_S n M) (r_M : R M) (H : P_X12_check (n + 40) p1 M Q) (K : ∀ M1, Q M1 → y_S n M1 → R M1 → Post M1) : P_X12_check (n + 40) p1 M Post := by
  unfold P_X12_check at H ⊢
  refine mQ_isPath hR S_M r_M H (fun x_1 M_1 H S_M_1 r_M_1 => ?_)
  refine And.intro (fun c1 => ?_) (fun c1 => ?_)
  · replace H := H.1 c1
    refine mQ_goes hR S_M_1 r_M_1 H (fun x_7 M_7 H S_M_7 r_M_7 => ?_)
    refine And.intro (fun c2 => ?_) (fun c2 => ?_)
    · replace H := H.1 c2
      exact K _ H S_M_7 r_M_7
    · replace H := H.2 c2
      refine mQ_puts hR S_M_7 r_M_7 H (fun M_9 H S_M_9 r_M_9 => ?_)
      exact K _ H S_M_9 r_M_9
  · replace H := H.2 c1
    refine mQ_goes hR S_M_1 r_M_1 H (fun x_4 M_4 H S_M_4 r_M_4 => ?_)
    refine And.intro (fun c3 => ?_) (fun c3 => ?_)
    · replace H := H.1 c3
      exact K _ H S_M_4 r_M_4
    · replace H := H.2 c3
      refine mQ_puts hR S_M_4 r_M_4 H (fun M_6 H S_M_6 r_M_6 => ?_)
      exact K _ H S_M_6 r_M_6
set_option maxRecDepth 100000 in
set_option maxHeartbeats 4000000 in
theorem mQ_changeKey_54 {n : Nat} {R : z_Mem → Prop} (hR : y_mQ n R) {Q Post : Int32 → z_Mem → Prop} {QJ4 PJ4 : Int32 → Int32 → z_Mem → Prop} {x2 : Int32} {t0 : Int32} {M : z_Mem} (S_M : y_S n M) (r_M : R M) (H : P_X12_changeKey_54 (n + 40) Q QJ4 x2 t0 M) (K : ∀ x M1, Q x M1 → y_S n M1 → R M1 → Post x M1) (KJ4 : ∀ v0 v1 M1, QJ4 v0 v1 M1 → y_S n M1 → R M1 → PJ4 v0 v1 M1) : P_X12_changeKey_54 (n + 40) Post PJ4 x2 t0 M := by
  unfold P_X12_changeKey_54 at H ⊢
  intro x_1 e_x_1
  replace H := H x_1 e_x_1
  exact KJ4 _ _ _ H S_M r_M
set_option maxRecDepth 100000 in
set_option maxHeartbeats 4000000 in
theorem mQ_changeKey_49 {n : Nat} {R : z_Mem → Prop} (hR : y_mQ n R) {Q Post : Int32 → z_Mem → Prop} {QJ4 PJ4 : Int32 → Int32 → z_Mem → Prop} {x2 : Int32} {M : z_Mem} (S_M : y_S n M) (r_M : R M) (H : P_X12_changeKey_49 (n + 40) Q QJ4 x2 M) (K : ∀ x M1, Q x M1 → y_S n M1 → R M1 → Post x M1) (KJ4 : ∀ v0 v1 M1, QJ4 v0 v1 M1 → y_S n M1 → R M1 → PJ4 v0 v1 M1) : P_X12_changeKey_49 (n + 40) Post PJ4 x2 M := by
  unfold P_X12_changeKey_49 at H ⊢
  exact mQ_changeKey_54 hR S_M r_M H K KJ4
set_option maxRecDepth 100000 in
set_option maxHeartbeats 4000000 in
theorem mQ_changeKey_53 {n : Nat} {R : z_Mem → Prop} (hR : y_mQ n R) {Q Post : Int32 → z_Mem → Prop} {QJ4 PJ4 : Int32 → Int32 → z_Mem → Prop} {x2 : Int32} {M : z_Mem} (S_M : y_S n M) (r_M : R M) (H : P_X12_changeKey_53 (n + 40) Q QJ4 x2 M) (K : ∀ x M1, Q x M1 → y_S n M1 → R M1 → Post x M1) (KJ4 : ∀ v0 v1 M1, QJ4 v0 v1 M1 → y_S n M1 → R M1 → PJ4 v0 v1 M1) : P_X12_changeKey_53 (n + 40) Post PJ4 x2 M := by
  unfold P_X12_changeKey_53 at H ⊢
  exact mQ_changeKey_54 hR S_M r_M H K KJ4
set_option maxRecDepth 100000 in
set_option maxHeartbeats 4000000 in
theorem mQ_changeKey_79 {n : Nat} {R : z_Mem → Prop} (hR : y_mQ n R) {Q Post : Int32 → z_Mem → Prop} {t1 : Int32} {o_t0 : Option Nat} {M : z_Mem} (ho_t0 : o_t0 = some (n + 40)) (S_M : y_S n M) (r_M : R M) (H : P_X12_changeKey_79 (n + 40) Q o_t0 t1 M) (K : ∀ x M1, Q x M1 → y_S n M1 → R M1 → Post x M1) : P_X12_changeKey_79 (n + 40) Post o_t0 t1 M := by
  subst ho_t0
  unfold P_X12_changeKey_79 at H ⊢
  replace H := z_nne rfl H
  refine z_nn_of rfl ?_
  refine mQ_goes hR S_M r_M H (fun x_2 M_2 H S_M_2 r_M_2 => ?_)
  refine And.intro (fun c1 => ?_) (fun c1 => ?_)
  · replace H := H.1 c1
    exact K _ _ H S_M_2 r_M_2
  · replace H := H.2 c1
    intro M_6 e_M_6
    replace H := H M_6 e_M_6
    have S_M_6 : y_S n M_6 := by rw [e_M_6]; exact S_sfi S_M_2
    have r_M_6 : R M_6 := by rw [e_M_6]; exact hR.2.2 _ 1584 _ (by decide) r_M_2
    exact K _ _ H S_M_6 r_M_6
set_option maxRecDepth 100000 in
set_option maxHeartbeats 4000000 in
theorem mQ_changeKey_78 {n : Nat} {R : z_Mem → Prop} (hR : y_mQ n R) {Q Post : Int32 → z_Mem → Prop} {o_t0 : Option Nat} {M : z_Mem} (ho_t0 : o_t0 = some (n + 40)) (S_M : y_S n M) (r_M : R M) (H : P_X12_changeKey_78 (n + 40) Q o_t0 M) (K : ∀ x M1, Q x M1 → y_S n M1 → R M1 → Post x M1) : P_X12_changeKey_78 (n + 40) Post o_t0 M := by
  subst ho_t0
  unfold P_X12_changeKey_78 at H ⊢
  exact mQ_changeKey_79 hR rfl S_M r_M H K
set_option maxRecDepth 100000 in
set_option maxHeartbeats 4000000 in
theorem mQ_changeKey_4 {n : Nat} {R : z_Mem → Prop} (hR : y_mQ n R) {Q Post : Int32 → z_Mem → Prop} : ∀ (m : Nat) {x1 : Int32} {x2 : Int32} {M : z_Mem} (S_M : y_S n M) (r_M : R M) (H : P_X12_changeKey_4 (n + 40) Q m x1 x2 M) (K : ∀ x M1, Q x M1 → y_S n M1 → R M1 → Post x M1), P_X12_changeKey_4 (n + 40) Post m x1 x2 M := by
  intro m
  induction m with
  | zero => intros; rename_i H _; exact False.elim H
  | succ m ih =>
    intro x1 x2 M S_M r_M H K
    unfold P_X12_changeKey_4 at H ⊢
    refine And.intro (fun c1 => ?_) (fun c1 => ?_)
    · replace H := H.1 c1
      refine And.intro (fun c2 => ?_) (fun c2 => ?_)
      · replace H := H.1 c2
        refine And.intro (fun c3 => ?_) (fun c3 => ?_)
        · replace H := H.1 c3
          exact mQ_changeKey_78 hR rfl S_M r_M H K
        · replace H := H.2 c3
          exact mQ_changeKey_79 hR rfl S_M r_M H K
      · replace H := H.2 c2
        exact mQ_changeKey_78 hR rfl S_M r_M H K
    · replace H := H.2 c1
      refine And.intro (fun c4 => ?_) (fun c4 => ?_)
      · replace H := H.1 c4
        replace H := z_nne (s_1600_40 S_M) H
        refine z_nn_of (s_1600_40 S_M) ?_
        refine And.intro H.1 ?_
        replace H := H.2
        refine And.intro (fun c5 => ?_) (fun c5 => ?_)
        · replace H := H.1 c5
          replace H := z_nne (s_1598_40 S_M) H
          refine z_nn_of (s_1598_40 S_M) ?_
          refine And.intro H.1 ?_
          replace H := H.2
          refine And.intro (fun c6 => ?_) (fun c6 => ?_)
          · replace H := H.1 c6
            exact mQ_changeKey_49 hR S_M r_M H K (fun v0 v1 M1 q S u => ih S u q K)
          · replace H := H.2 c6
            replace H := z_nne (s_1598_40 S_M) H
            refine z_nn_of (s_1598_40 S_M) ?_
            refine And.intro H.1 ?_
            replace H := H.2
            refine And.intro (fun c7 => ?_) (fun c7 => ?_)
            · replace H := H.1 c7
              exact mQ_changeKey_49 hR S_M r_M H K (fun v0 v1 M1 q S u => ih S u q K)
            · replace H := H.2 c7
              exact mQ_changeKey_53 hR S_M r_M H K (fun v0 v1 M1 q S u => ih S u q K)
        · replace H := H.2 c5
          exact mQ_changeKey_53 hR S_M r_M H K (fun v0 v1 M1 q S u => ih S u q K)
      · replace H := H.2 c4
        exact mQ_changeKey_49 hR S_M r_M H K (fun v0 v1 M1 q S u => ih S u q K)
set_option maxRecDepth 100000 in
set_option maxHeartbeats 4000000 in
theorem mQ_changeKey {n : Nat} {R : z_Mem → Prop} (hR : y_mQ n R) {Q Post : Int32 → z_Mem → Prop} {M : z_Mem} (S_M : y_S n M) (r_M : R M) (H : P_X12_changeKey (n + 40) M Q) (K : ∀ x M1, Q x M1 → y_S n M1 → R M1 → Post x M1) : P_X12_changeKey (n + 40) M Post := by
  unfold P_X12_changeKey at H ⊢
  obtain ⟨m, H⟩ := H
  refine ⟨m, ?_⟩
  exact mQ_changeKey_4 hR m S_M r_M H K
set_option maxRecDepth 100000 in
set_option maxHeartbeats 4000000 in
theorem mQ_close_36 {n : Nat} {R : z_Mem → Prop} (hR : y_mQ n R) {Q Post : z_Mem → Prop} {t1 : Int32} {o_t0 : Option Nat} {M : z_Mem} (ho_t0 : o_t0 = some (n + 40)) (S_M : y_S n M) (r_M : R M) (H : P_X12_close_36 (n + 40) Q o_t0 t1 M) (K : ∀ M1, Q M1 → y_S n M1 → R M1 → Post M1) : P_X12_close_36 (n + 40) Post o_t0 t1 M := by
  subst ho_t0
  unfold P_X12_close_36 at H ⊢
  replace H := z_nne rfl H
  refine z_nn_of rfl ?_
  refine mQ_puts hR S_M r_M H (fun M_1 H S_M_1 r_M_1 => ?_)
  intro M_3 e_M_3
  replace H := H M_3 e_M_3
  have S_M_3 : y_S n M_3 := by rw [e_M_3]; exact S_sfi S_M_1
  have r_M_3 : R M_3 := by rw [e_M_3]; exact hR.2.2 _ 1577 _ (by decide) r_M_1
  intro M_5 e_M_5
  replace H := H M_5 e_M_5
  have S_M_5 : y_S n M_5 := by rw [e_M_5]; exact S_sfi S_M_3
  have r_M_5 : R M_5 := by rw [e_M_5]; exact hR.2.2 _ 1582 _ (by decide) r_M_3
  exact K _ H S_M_5 r_M_5
set_option maxRecDepth 100000 in
set_option maxHeartbeats 4000000 in
theorem mQ_close_14 {n : Nat} {R : z_Mem → Prop} (hR : y_mQ n R) {Q Post : z_Mem → Prop} {t1 : Int32} {o_t0 : Option Nat} {M : z_Mem} (ho_t0 : o_t0 = some (n + 40)) (S_M : y_S n M) (r_M : R M) (H : P_X12_close_14 (n + 40) Q o_t0 t1 M) (K : ∀ M1, Q M1 → y_S n M1 → R M1 → Post M1) : P_X12_close_14 (n + 40) Post o_t0 t1 M := by
  subst ho_t0
  unfold P_X12_close_14 at H ⊢
  replace H := z_nne rfl H
  refine z_nn_of rfl ?_
  refine mQ_goes hR S_M r_M H (fun x_6 M_6 H S_M_6 r_M_6 => ?_)
  refine And.intro (fun c1 => ?_) (fun c1 => ?_)
  · replace H := H.1 c1
    exact K _ H S_M_6 r_M_6
  · replace H := H.2 c1
    refine And.intro (fun c2 => ?_) (fun c2 => ?_)
    · replace H := H.1 c2
      exact mQ_close_36 hR rfl S_M_6 r_M_6 H K
    · replace H := H.2 c2
      exact mQ_close_36 hR rfl S_M_6 r_M_6 H K
set_option maxRecDepth 100000 in
set_option maxHeartbeats 4000000 in
theorem mQ_close {n : Nat} {R : z_Mem → Prop} (hR : y_mQ n R) {Q Post : z_Mem → Prop} {M : z_Mem} (S_M : y_S n M) (r_M : R M) (H : P_X12_close (n + 40) M Q) (K : ∀ M1, Q M1 → y_S n M1 → R M1 → Post M1) : P_X12_close (n + 40) M Post := by
  unfold P_X12_close at H ⊢
  refine And.intro (fun c1 => ?_) (fun c1 => ?_)
  · replace H := H.1 c1
    exact mQ_close_14 hR rfl S_M r_M H K
  · replace H := H.2 c1
    exact mQ_close_14 hR rfl S_M r_M H K
set_option maxRecDepth 100000 in
set_option maxHeartbeats 4000000 in
theorem mQ_passes_43 {n : Nat} {R : z_Mem → Prop} (hR : y_mQ n R) {Q Post : z_Mem → Prop} {QJ12 PJ12 : Int32 → z_Mem → Prop} {x1 : Int32} {M : z_Mem} (S_M : y_S n M) (r_M : R M) (H : P_X12_passes_43 (n + 40) Q QJ12 x1 M) (K : ∀ M1, Q M1 → y_S n M1 → R M1 → Post M1) (KJ12 : ∀ v0 M1, QJ12 v0 M1 → y_S n M1 → R M1 → PJ12 v0 M1) : P_X12_passes_43 (n + 40) Post PJ12 x1 M := by
  unfold P_X12_passes_43 at H ⊢
  intro x_1 e_x_1
  replace H := H x_1 e_x_1
  exact KJ12 _ _ H S_M r_M
set_option maxRecDepth 100000 in
set_option maxHeartbeats 4000000 in
theorem mQ_passes_79 {n : Nat} {R : z_Mem → Prop} (hR : y_mQ n R) {Q Post : z_Mem → Prop} {QJ56 PJ56 : Int32 → Int32 → z_Mem → Prop} {x1 : Int32} {x2 : Int32} {M : z_Mem} (S_M : y_S n M) (r_M : R M) (H : P_X12_passes_79 (n + 40) Q QJ56 x1 x2 M) (K : ∀ M1, Q M1 → y_S n M1 → R M1 → Post M1) (KJ56 : ∀ v0 v1 M1, QJ56 v0 v1 M1 → y_S n M1 → R M1 → PJ56 v0 v1 M1) : P_X12_passes_79 (n + 40) Post PJ56 x1 x2 M := by
  unfold P_X12_passes_79 at H ⊢
  intro x_2 e_x_2
  replace H := H x_2 e_x_2
  exact KJ56 _ _ _ H S_M r_M
set_option maxRecDepth 100000 in
set_option maxHeartbeats 4000000 in
theorem mQ_passes_235 {n : Nat} {R : z_Mem → Prop} (hR : y_mQ n R) {Q Post : z_Mem → Prop} {o_t0 : Option Nat} {M : z_Mem} (ho_t0 : o_t0 = some (n + 40)) (S_M : y_S n M) (r_M : R M) (H : P_X12_passes_235 (n + 40) Q o_t0 M) (K : ∀ M1, Q M1 → y_S n M1 → R M1 → Post M1) : P_X12_passes_235 (n + 40) Post o_t0 M := by
  subst ho_t0
  unfold P_X12_passes_235 at H ⊢
  replace H := z_nne rfl H
  refine z_nn_of rfl ?_
  intro M_5 e_M_5
  replace H := H M_5 e_M_5
  have S_M_5 : y_S n M_5 := by rw [e_M_5]; exact S_sfi S_M
  have r_M_5 : R M_5 := by rw [e_M_5]; exact hR.2.2 _ 1577 _ (by decide) r_M
  refine mQ_sendsAll hR S_M_5 r_M_5 H (fun M_6 H S_M_6 r_M_6 => ?_)
  refine mQ_leaves hR S_M_6 r_M_6 H (fun M_7 H S_M_7 r_M_7 => ?_)
  refine mQ_leaves hR S_M_7 r_M_7 H (fun M_8 H S_M_8 r_M_8 => ?_)
  exact K _ H S_M_8 r_M_8
set_option maxRecDepth 100000 in
set_option maxHeartbeats 4000000 in
theorem mQ_passes_208 {n : Nat} {R : z_Mem → Prop} (hR : y_mQ n R) {Q Post : z_Mem → Prop} {M : z_Mem} (S_M : y_S n M) (r_M : R M) (H : P_X12_passes_208 (n + 40) Q M) (K : ∀ M1, Q M1 → y_S n M1 → R M1 → Post M1) : P_X12_passes_208 (n + 40) Post M := by
  unfold P_X12_passes_208 at H ⊢
  refine And.intro (fun c1 => ?_) (fun c1 => ?_)
  · replace H := H.1 c1
    refine And.intro (fun c2 => ?_) (fun c2 => ?_)
    · replace H := H.1 c2
      exact mQ_passes_235 hR rfl S_M r_M H K
    · replace H := H.2 c2
      intro M_14 e_M_14
      replace H := H M_14 e_M_14
      have S_M_14 : y_S n M_14 := by rw [e_M_14]; exact S_sfi S_M
      have r_M_14 : R M_14 := by rw [e_M_14]; exact hR.2.2 _ 1577 _ (by decide) r_M
      refine mQ_sendsAll hR S_M_14 r_M_14 H (fun M_15 H S_M_15 r_M_15 => ?_)
      refine mQ_leaves hR S_M_15 r_M_15 H (fun M_16 H S_M_16 r_M_16 => ?_)
      refine mQ_leaves hR S_M_16 r_M_16 H (fun M_17 H S_M_17 r_M_17 => ?_)
      exact K _ H S_M_17 r_M_17
  · replace H := H.2 c1
    exact mQ_passes_235 hR rfl S_M r_M H K
set_option maxRecDepth 100000 in
set_option maxHeartbeats 4000000 in
theorem mQ_passes_170 {n : Nat} {R : z_Mem → Prop} (hR : y_mQ n R) {Q Post : z_Mem → Prop} {M : z_Mem} (S_M : y_S n M) (r_M : R M) (H : P_X12_passes_170 (n + 40) Q M) (K : ∀ M1, Q M1 → y_S n M1 → R M1 → Post M1) : P_X12_passes_170 (n + 40) Post M := by
  unfold P_X12_passes_170 at H ⊢
  refine And.intro (fun c1 => ?_) (fun c1 => ?_)
  · replace H := H.1 c1
    refine And.intro (fun c2 => ?_) (fun c2 => ?_)
    · replace H := H.1 c2
      exact mQ_passes_208 hR S_M r_M H K
    · replace H := H.2 c2
      intro M_25 e_M_25
      replace H := H M_25 e_M_25
      have S_M_25 : y_S n M_25 := by rw [e_M_25]; exact S_sfi S_M
      have r_M_25 : R M_25 := by rw [e_M_25]; exact hR.2.2 _ 1581 _ (by decide) r_M
      refine mQ_saysHello hR S_M_25 r_M_25 H (fun M_26 H S_M_26 r_M_26 => ?_)
      exact mQ_passes_208 hR S_M_26 r_M_26 H K
  · replace H := H.2 c1
    exact mQ_passes_208 hR S_M r_M H K
set_option maxRecDepth 100000 in
set_option maxHeartbeats 4000000 in
theorem mQ_passes_150 {n : Nat} {R : z_Mem → Prop} (hR : y_mQ n R) {Q Post : z_Mem → Prop} {M : z_Mem} (S_M : y_S n M) (r_M : R M) (H : P_X12_passes_150 (n + 40) Q M) (K : ∀ M1, Q M1 → y_S n M1 → R M1 → Post M1) : P_X12_passes_150 (n + 40) Post M := by
  unfold P_X12_passes_150 at H ⊢
  refine mQ_losesByTime hR S_M r_M H (fun M_27 H S_M_27 r_M_27 => ?_)
  refine mQ_losesByTime hR S_M_27 r_M_27 H (fun M_28 H S_M_28 r_M_28 => ?_)
  refine mQ_probesOn hR S_M_28 r_M_28 H (fun M_29 H S_M_29 r_M_29 => ?_)
  refine mQ_probesOn hR S_M_29 r_M_29 H (fun M_30 H S_M_30 r_M_30 => ?_)
  exact mQ_passes_170 hR S_M_30 r_M_30 H K
set_option maxRecDepth 100000 in
set_option maxHeartbeats 4000000 in
theorem mQ_passes_134 {n : Nat} {R : z_Mem → Prop} (hR : y_mQ n R) {Q Post : z_Mem → Prop} {M : z_Mem} (S_M : y_S n M) (r_M : R M) (H : P_X12_passes_134 (n + 40) Q M) (K : ∀ M1, Q M1 → y_S n M1 → R M1 → Post M1) : P_X12_passes_134 (n + 40) Post M := by
  unfold P_X12_passes_134 at H ⊢
  refine And.intro (fun c1 => ?_) (fun c1 => ?_)
  · replace H := H.1 c1
    exact mQ_passes_150 hR S_M r_M H K
  · replace H := H.2 c1
    refine And.intro (fun c2 => ?_) (fun c2 => ?_)
    · replace H := H.1 c2
      exact mQ_passes_150 hR S_M r_M H K
    · replace H := H.2 c2
      exact mQ_passes_170 hR S_M r_M H K
set_option maxRecDepth 100000 in
set_option maxHeartbeats 4000000 in
theorem mQ_passes_130 {n : Nat} {R : z_Mem → Prop} (hR : y_mQ n R) {Q Post : z_Mem → Prop} {M : z_Mem} (S_M : y_S n M) (r_M : R M) (H : P_X12_passes_130 (n + 40) Q M) (K : ∀ M1, Q M1 → y_S n M1 → R M1 → Post M1) : P_X12_passes_130 (n + 40) Post M := by
  unfold P_X12_passes_130 at H ⊢
  refine mQ_acknowledges hR S_M r_M H (fun M_35 H S_M_35 r_M_35 => ?_)
  exact mQ_passes_134 hR S_M_35 r_M_35 H K
set_option maxRecDepth 100000 in
set_option maxHeartbeats 4000000 in
theorem mQ_passes_120 {n : Nat} {R : z_Mem → Prop} (hR : y_mQ n R) {Q Post : z_Mem → Prop} {M : z_Mem} (S_M : y_S n M) (r_M : R M) (H : P_X12_passes_120 (n + 40) Q M) (K : ∀ M1, Q M1 → y_S n M1 → R M1 → Post M1) : P_X12_passes_120 (n + 40) Post M := by
  unfold P_X12_passes_120 at H ⊢
  refine And.intro (fun c1 => ?_) (fun c1 => ?_)
  · replace H := H.1 c1
    exact mQ_passes_130 hR S_M r_M H K
  · replace H := H.2 c1
    exact mQ_passes_134 hR S_M r_M H K
set_option maxRecDepth 100000 in
set_option maxHeartbeats 4000000 in
theorem mQ_passes_56 {n : Nat} {R : z_Mem → Prop} (hR : y_mQ n R) {Q Post : z_Mem → Prop} : ∀ (m : Nat) {x1 : Int32} {x2 : Int32} {M : z_Mem} (S_M : y_S n M) (r_M : R M) (H : P_X12_passes_56 (n + 40) Q m x1 x2 M) (K : ∀ M1, Q M1 → y_S n M1 → R M1 → Post M1), P_X12_passes_56 (n + 40) Post m x1 x2 M := by
  intro m
  induction m with
  | zero => intros; rename_i H _; exact False.elim H
  | succ m ih =>
    intro x1 x2 M S_M r_M H K
    unfold P_X12_passes_56 at H ⊢
    refine And.intro (fun c1 => ?_) (fun c1 => ?_)
    · replace H := H.1 c1
      refine And.intro (fun c2 => ?_) (fun c2 => ?_)
      · replace H := H.1 c2
        refine And.intro (fun c3 => ?_) (fun c3 => ?_)
        · replace H := H.1 c3
          exact mQ_passes_134 hR S_M r_M H K
        · replace H := H.2 c3
          refine And.intro (fun c4 => ?_) (fun c4 => ?_)
          · replace H := H.1 c4
            exact mQ_passes_120 hR S_M r_M H K
          · replace H := H.2 c4
            refine And.intro (fun c5 => ?_) (fun c5 => ?_)
            · replace H := H.1 c5
              exact mQ_passes_130 hR S_M r_M H K
            · replace H := H.2 c5
              exact mQ_passes_120 hR S_M r_M H K
      · replace H := H.2 c2
        exact mQ_passes_134 hR S_M r_M H K
    · replace H := H.2 c1
      replace H := z_nne (s_1558_40 S_M) H
      refine z_nn_of (s_1558_40 S_M) ?_
      refine And.intro H.1 ?_
      replace H := H.2
      refine And.intro (fun c6 => ?_) (fun c6 => ?_)
      · replace H := H.1 c6
        refine mQ_arrivesAtClient hR S_M r_M H (fun M_53 H S_M_53 r_M_53 => ?_)
        exact mQ_passes_79 hR S_M_53 r_M_53 H K (fun v0 v1 M1 q S u => ih S u q K)
      · replace H := H.2 c6
        exact mQ_passes_79 hR S_M r_M H K (fun v0 v1 M1 q S u => ih S u q K)
set_option maxRecDepth 100000 in
set_option maxHeartbeats 4000000 in
theorem mQ_passes_12 {n : Nat} {R : z_Mem → Prop} (hR : y_mQ n R) {Q Post : z_Mem → Prop} : ∀ (m : Nat) {x1 : Int32} {M : z_Mem} (S_M : y_S n M) (r_M : R M) (H : P_X12_passes_12 (n + 40) Q m x1 M) (K : ∀ M1, Q M1 → y_S n M1 → R M1 → Post M1), P_X12_passes_12 (n + 40) Post m x1 M := by
  intro m
  induction m with
  | zero => intros; rename_i H _; exact False.elim H
  | succ m ih =>
    intro x1 M S_M r_M H K
    unfold P_X12_passes_12 at H ⊢
    refine And.intro (fun c1 => ?_) (fun c1 => ?_)
    · replace H := H.1 c1
      intro x_57 e_x_57
      replace H := H x_57 e_x_57
      obtain ⟨m, H⟩ := H
      refine ⟨m, ?_⟩
      exact mQ_passes_56 hR m S_M r_M H K
    · replace H := H.2 c1
      replace H := z_nne (s_1553_40 S_M) H
      refine z_nn_of (s_1553_40 S_M) ?_
      refine And.intro H.1 ?_
      replace H := H.2
      refine And.intro (fun c2 => ?_) (fun c2 => ?_)
      · replace H := H.1 c2
        replace H := z_nne (s_1552_40 S_M) H
        refine z_nn_of (s_1552_40 S_M) ?_
        refine And.intro H.1 ?_
        replace H := H.2
        refine mQ_arrivesAtServer hR S_M r_M H (fun M_67 H S_M_67 r_M_67 => ?_)
        exact mQ_passes_43 hR S_M_67 r_M_67 H K (fun v0 M1 q S u => ih S u q K)
      · replace H := H.2 c2
        exact mQ_passes_43 hR S_M r_M H K (fun v0 M1 q S u => ih S u q K)
set_option maxRecDepth 100000 in
set_option maxHeartbeats 4000000 in
theorem mQ_passes {n : Nat} {R : z_Mem → Prop} (hR : y_mQ n R) {Q Post : z_Mem → Prop} {M : z_Mem} (S_M : y_S n M) (r_M : R M) (H : P_X12_passes (n + 40) M Q) (K : ∀ M1, Q M1 → y_S n M1 → R M1 → Post M1) : P_X12_passes (n + 40) M Post := by
  unfold P_X12_passes at H ⊢
  intro M_69 e_M_69
  replace H := H M_69 e_M_69
  have S_M_69 : y_S n M_69 := by rw [e_M_69]; exact S_sfi S_M
  have r_M_69 : R M_69 := by rw [e_M_69]; exact hR.2.2 _ 1536 _ (by decide) r_M
  obtain ⟨m, H⟩ := H
  refine ⟨m, ?_⟩
  exact mQ_passes_12 hR m S_M_69 r_M_69 H K
set_option maxRecDepth 100000 in
set_option maxHeartbeats 4000000 in
theorem mQ_tick_36 {n : Nat} {R : z_Mem → Prop} (hR : y_mQ n R) {Q Post : Int32 → z_Mem → Prop} : ∀ (m : Nat) {x1 : Int32} {x2 : Int32} {M : z_Mem} (S_M : y_S n M) (r_M : R M) (H : P_X12_tick_36 (n + 40) Q m x1 x2 M) (K : ∀ x M1, Q x M1 → y_S n M1 → R M1 → Post x M1), P_X12_tick_36 (n + 40) Post m x1 x2 M := by
  intro m
  induction m with
  | zero => intros; rename_i H _; exact False.elim H
  | succ m ih =>
    intro x1 x2 M S_M r_M H K
    unfold P_X12_tick_36 at H ⊢
    refine And.intro (fun c1 => ?_) (fun c1 => ?_)
    · replace H := H.1 c1
      exact K _ _ H S_M r_M
    · replace H := H.2 c1
      refine mQ_passes hR S_M r_M H (fun M_3 H S_M_3 r_M_3 => ?_)
      intro x_4 e_x_4
      replace H := H x_4 e_x_4
      exact ih S_M_3 r_M_3 H K
set_option maxRecDepth 100000 in
set_option maxHeartbeats 4000000 in
theorem mQ_tick_25 {n : Nat} {R : z_Mem → Prop} (hR : y_mQ n R) {Q Post : Int32 → z_Mem → Prop} {x1 : Int32} {t1 : Int32} {t2 : Int32} {o_t0 : Option Nat} {M : z_Mem} (ho_t0 : o_t0 = some (n + 40)) (S_M : y_S n M) (r_M : R M) (H : P_X12_tick_25 (n + 40) Q x1 o_t0 t1 t2 M) (K : ∀ x M1, Q x M1 → y_S n M1 → R M1 → Post x M1) : P_X12_tick_25 (n + 40) Post x1 o_t0 t1 t2 M := by
  subst ho_t0
  unfold P_X12_tick_25 at H ⊢
  replace H := z_nne rfl H
  refine z_nn_of rfl ?_
  refine mQ_goes hR S_M r_M H (fun x_5 M_5 H S_M_5 r_M_5 => ?_)
  refine And.intro (fun c1 => ?_) (fun c1 => ?_)
  · replace H := H.1 c1
    exact K _ _ H S_M_5 r_M_5
  · replace H := H.2 c1
    obtain ⟨m, H⟩ := H
    refine ⟨m, ?_⟩
    exact mQ_tick_36 hR m S_M_5 r_M_5 H K
set_option maxRecDepth 100000 in
set_option maxHeartbeats 4000000 in
theorem mQ_tick {n : Nat} {R : z_Mem → Prop} (hR : y_mQ n R) {Q Post : Int32 → z_Mem → Prop} {p1 : Int32} {M : z_Mem} (S_M : y_S n M) (r_M : R M) (H : P_X12_tick (n + 40) p1 M Q) (K : ∀ x M1, Q x M1 → y_S n M1 → R M1 → Post x M1) : P_X12_tick (n + 40) p1 M Post := by
  unfold P_X12_tick at H ⊢
  refine mQ_in hR S_M r_M H (fun x_9 M_9 H S_M_9 r_M_9 => ?_)
  refine And.intro (fun c1 => ?_) (fun c1 => ?_)
  · replace H := H.1 c1
    exact mQ_tick_25 hR rfl S_M_9 r_M_9 H K
  · replace H := H.2 c1
    exact mQ_tick_25 hR rfl S_M_9 r_M_9 H K
