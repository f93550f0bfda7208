/-! ===== THE CLASS as functions on memories, 4 ===== -/
set_option maxRecDepth 100000 in
noncomputable def cF_X9_lowestLost (a : Nat) (M : z_Mem) : (Int32 × z_Mem) := (cF_X9_lowestLost_2 a 0 M)
set_option maxRecDepth 100000 in
theorem cE_X9_lowestLost (a : Nat) (M : z_Mem) : cF_X9_lowestLost a M = (cF_X9_lowestLost_2 a 0 M) := rfl
set_option maxRecDepth 100000 in
set_option maxHeartbeats 4000000 in
theorem cS_X9_lowestLost {Q Post : Int32 → z_Mem → Prop} {a : Nat} {M : z_Mem} (H : P_X9_lowestLost a M Q) (K : ∀ x M1, Q x M1 → cF_X9_lowestLost a M = (x, M1) → Post x M1) : P_X9_lowestLost a M Post := by
  have hF := cE_X9_lowestLost a M
  unfold P_X9_lowestLost at H ⊢
  obtain ⟨m, H⟩ := H
  refine ⟨m, ?_⟩
  exact cS_X9_lowestLost_2 m H (fun x M1 q u => K x M1 q (hF.trans u))
set_option maxRecDepth 100000 in
noncomputable def cB_X9_lostInARow_2 (a : Nat) (x1 : Int32) (x2 : Int32) (M : z_Mem) : (Int32 × Int32 × z_Mem) ⊕ (Int32 × z_Mem) := (if (10 ≤ x2) then (.inr (x2, M)) else (q_st2 (cF_X9_isLost a (x1 + x2) M) (fun (x_2 : Int32) (M_2 : z_Mem) => (if (x_2 = 0) then (.inr (x2, M_2)) else (q_st (x2 + 1) (fun (x_4 : Int32) => (.inl (x1, x_4, M_2))))))))
set_option maxRecDepth 100000 in
noncomputable def cF_X9_lostInARow_2 (a : Nat) (x1 : Int32) (x2 : Int32) (M : z_Mem) : (Int32 × z_Mem) := q_lp (X := (Int32 × Int32 × z_Mem)) (Y := (Int32 × z_Mem)) ((0 : Int32), M) (fun t => cB_X9_lostInARow_2 a t.1 t.2.1 t.2.2) (x1, x2, M)
set_option maxRecDepth 100000 in
theorem cUl_X9_lostInARow_2 {a : Nat} {x1 : Int32} {x2 : Int32} {M : z_Mem} {y_x1 : Int32} {y_x2 : Int32} {M1 : z_Mem} (h : cB_X9_lostInARow_2 a x1 x2 M = .inl (y_x1, y_x2, M1)) : cF_X9_lostInARow_2 a x1 x2 M = cF_X9_lostInARow_2 a y_x1 y_x2 M1 := q_lpl (step := fun t => cB_X9_lostInARow_2 a t.1 t.2.1 t.2.2) h
set_option maxRecDepth 100000 in
theorem cUr_X9_lostInARow_2 {a : Nat} {x1 : Int32} {x2 : Int32} {M : z_Mem} {y : (Int32 × z_Mem)} (h : cB_X9_lostInARow_2 a x1 x2 M = .inr y) : cF_X9_lostInARow_2 a x1 x2 M = y := q_lpr (step := fun t => cB_X9_lostInARow_2 a t.1 t.2.1 t.2.2) h
set_option maxRecDepth 100000 in
theorem cE_X9_lostInARow_2 (a : Nat) (x1 : Int32) (x2 : Int32) (M : z_Mem) : cB_X9_lostInARow_2 a x1 x2 M = (if (10 ≤ x2) then (.inr (x2, M)) else (q_st2 (cF_X9_isLost a (x1 + x2) M) (fun (x_2 : Int32) (M_2 : z_Mem) => (if (x_2 = 0) then (.inr (x2, M_2)) else (q_st (x2 + 1) (fun (x_4 : Int32) => (.inl (x1, x_4, M_2)))))))) := rfl
set_option maxRecDepth 100000 in
set_option maxHeartbeats 4000000 in
theorem cS_X9_lostInARow_2 {Q Post : Int32 → z_Mem → Prop} {a : Nat} : ∀ (m : Nat) {x1 : Int32} {x2 : Int32} {M : z_Mem} (H : P_X9_lostInARow_2 a Q m x1 x2 M) (K : ∀ x M1, Q x M1 → cF_X9_lostInARow_2 a x1 x2 M = (x, M1) → Post x M1), P_X9_lostInARow_2 a Post m x1 x2 M := by
  intro m
  induction m with
  | zero => intros; rename_i H _; exact False.elim H
  | succ m ih =>
    intro x1 x2 M H K
    have hF := cE_X9_lostInARow_2 a x1 x2 M
    unfold P_X9_lostInARow_2 at H ⊢
    refine And.intro (fun c1 => ?_) (fun c1 => ?_)
    · replace H := H.1 c1
      replace hF := hF.trans (if_pos c1)
      exact K _ _ H (cUr_X9_lostInARow_2 hF)
    · replace H := H.2 c1
      replace hF := hF.trans (if_neg c1)
      refine cS_X9_isLost H (fun x_2 M_2 H u => ?_)
      replace hF := hF.trans (q_ste2 u)
      refine And.intro (fun c2 => ?_) (fun c2 => ?_)
      · replace H := H.1 c2
        replace hF := hF.trans (if_pos c2)
        exact K _ _ H (cUr_X9_lostInARow_2 hF)
      · replace H := H.2 c2
        replace hF := hF.trans (if_neg c2)
        intro x_4 e_x_4
        replace H := H x_4 e_x_4
        replace hF := hF.trans (q_ste e_x_4)
        replace hF := cUl_X9_lostInARow_2 hF
        exact ih H (fun x M1 q u => K x M1 q (hF.trans u))
set_option maxRecDepth 100000 in
noncomputable def cF_X9_lostInARow (a : Nat) (p1 : Int32) (M : z_Mem) : (Int32 × z_Mem) := (cF_X9_lostInARow_2 a p1 0 M)
set_option maxRecDepth 100000 in
theorem cE_X9_lostInARow (a : Nat) (p1 : Int32) (M : z_Mem) : cF_X9_lostInARow a p1 M = (cF_X9_lostInARow_2 a p1 0 M) := rfl
set_option maxRecDepth 100000 in
set_option maxHeartbeats 4000000 in
theorem cS_X9_lostInARow {Q Post : Int32 → z_Mem → Prop} {a : Nat} {p1 : Int32} {M : z_Mem} (H : P_X9_lostInARow a p1 M Q) (K : ∀ x M1, Q x M1 → cF_X9_lostInARow a p1 M = (x, M1) → Post x M1) : P_X9_lostInARow a p1 M Post := by
  have hF := cE_X9_lostInARow a p1 M
  unfold P_X9_lostInARow at H ⊢
  obtain ⟨m, H⟩ := H
  refine ⟨m, ?_⟩
  exact cS_X9_lostInARow_2 m H (fun x M1 q u => K x M1 q (hF.trans u))
set_option maxRecDepth 100000 in
noncomputable def cB_X1_sendLost_2 (a : Nat) (x1 : Option Nat) (x2 : Int32) (M : z_Mem) : (Option Nat × Int32 × z_Mem) ⊕ (Int32 × z_Mem) := (if (4 ≤ x2) then (.inr (0, M)) else (q_st (Option.getD (z_fr M 129 a) 0) (fun (a3 : Nat) => (q_st (Option.getD (z_ar M a3 (x2 : Int32).toNatClampNeg) 0) (fun (a5 : Nat) => (if ((z_fi M 1155 a5) ≤ 0) then (q_st (x2 + 1) (fun (x_8 : Int32) => (.inl (x1, x_8, M)))) else (q_st (Option.getD (z_fr M 129 a) 0) (fun (a10 : Nat) => (q_st (Option.getD (z_ar M a10 (x2 : Int32).toNatClampNeg) 0) (fun (a13 : Nat) => (q_st2 (cF_X9_lowestLost a13 M) (fun (x_12 : Int32) (M_12 : z_Mem) => (q_st (Option.getD (z_fr M_12 129 a) 0) (fun (a15 : Nat) => (q_st (Option.getD (z_ar M_12 a15 (x2 : Int32).toNatClampNeg) 0) (fun (a18 : Nat) => (q_st2 (cF_X9_lostInARow a18 x_12 M_12) (fun (x_17 : Int32) (M_17 : z_Mem) => (q_st (cF_X1_sendPacket a x1 x2 x_12 x_17 0 M_17) (fun (M_19 : z_Mem) => (.inr (1, M_19))))))))))))))))))))))
set_option maxRecDepth 100000 in
noncomputable def cF_X1_sendLost_2 (a : Nat) (x1 : Option Nat) (x2 : Int32) (M : z_Mem) : (Int32 × z_Mem) := q_lp (X := (Option Nat × Int32 × z_Mem)) (Y := (Int32 × z_Mem)) ((0 : Int32), M) (fun t => cB_X1_sendLost_2 a t.1 t.2.1 t.2.2) (x1, x2, M)
set_option maxRecDepth 100000 in
theorem cUl_X1_sendLost_2 {a : Nat} {x1 : Option Nat} {x2 : Int32} {M : z_Mem} {y_x1 : Option Nat} {y_x2 : Int32} {M1 : z_Mem} (h : cB_X1_sendLost_2 a x1 x2 M = .inl (y_x1, y_x2, M1)) : cF_X1_sendLost_2 a x1 x2 M = cF_X1_sendLost_2 a y_x1 y_x2 M1 := q_lpl (step := fun t => cB_X1_sendLost_2 a t.1 t.2.1 t.2.2) h
set_option maxRecDepth 100000 in
theorem cUr_X1_sendLost_2 {a : Nat} {x1 : Option Nat} {x2 : Int32} {M : z_Mem} {y : (Int32 × z_Mem)} (h : cB_X1_sendLost_2 a x1 x2 M = .inr y) : cF_X1_sendLost_2 a x1 x2 M = y := q_lpr (step := fun t => cB_X1_sendLost_2 a t.1 t.2.1 t.2.2) h
set_option maxRecDepth 100000 in
theorem cE_X1_sendLost_2 (a : Nat) (x1 : Option Nat) (x2 : Int32) (M : z_Mem) : cB_X1_sendLost_2 a x1 x2 M = (if (4 ≤ x2) then (.inr (0, M)) else (q_st (Option.getD (z_fr M 129 a) 0) (fun (a3 : Nat) => (q_st (Option.getD (z_ar M a3 (x2 : Int32).toNatClampNeg) 0) (fun (a5 : Nat) => (if ((z_fi M 1155 a5) ≤ 0) then (q_st (x2 + 1) (fun (x_8 : Int32) => (.inl (x1, x_8, M)))) else (q_st (Option.getD (z_fr M 129 a) 0) (fun (a10 : Nat) => (q_st (Option.getD (z_ar M a10 (x2 : Int32).toNatClampNeg) 0) (fun (a13 : Nat) => (q_st2 (cF_X9_lowestLost a13 M) (fun (x_12 : Int32) (M_12 : z_Mem) => (q_st (Option.getD (z_fr M_12 129 a) 0) (fun (a15 : Nat) => (q_st (Option.getD (z_ar M_12 a15 (x2 : Int32).toNatClampNeg) 0) (fun (a18 : Nat) => (q_st2 (cF_X9_lostInARow a18 x_12 M_12) (fun (x_17 : Int32) (M_17 : z_Mem) => (q_st (cF_X1_sendPacket a x1 x2 x_12 x_17 0 M_17) (fun (M_19 : z_Mem) => (.inr (1, M_19)))))))))))))))))))))) := rfl
set_option maxRecDepth 100000 in
set_option maxHeartbeats 4000000 in
theorem cS_X1_sendLost_2 {Q Post : Int32 → z_Mem → Prop} {a : Nat} : ∀ (m : Nat) {x1 : Option Nat} {x2 : Int32} {M : z_Mem} (H : P_X1_sendLost_2 a Q m x1 x2 M) (K : ∀ x M1, Q x M1 → cF_X1_sendLost_2 a x1 x2 M = (x, M1) → Post x M1), P_X1_sendLost_2 a Post m x1 x2 M := by
  intro m
  induction m with
  | zero => intros; rename_i H _; exact False.elim H
  | succ m ih =>
    intro x1 x2 M H K
    have hF := cE_X1_sendLost_2 a x1 x2 M
    unfold P_X1_sendLost_2 at H ⊢
    refine And.intro (fun c1 => ?_) (fun c1 => ?_)
    · replace H := H.1 c1
      replace hF := hF.trans (if_pos c1)
      exact K _ _ H (cUr_X1_sendLost_2 hF)
    · replace H := H.2 c1
      replace hF := hF.trans (if_neg c1)
      obtain ⟨a3, e_a3, H⟩ := H
      refine z_nn_of e_a3 ?_
      replace hF := hF.trans (q_ste (q_gd e_a3))
      refine And.intro H.1 ?_
      replace H := H.2
      obtain ⟨a5, e_a5, H⟩ := H
      refine z_nn_of e_a5 ?_
      replace hF := hF.trans (q_ste (q_gd e_a5))
      refine And.intro (fun c2 => ?_) (fun c2 => ?_)
      · replace H := H.1 c2
        replace hF := hF.trans (if_pos c2)
        intro x_8 e_x_8
        replace H := H x_8 e_x_8
        replace hF := hF.trans (q_ste e_x_8)
        replace hF := cUl_X1_sendLost_2 hF
        exact ih H (fun x M1 q u => K x M1 q (hF.trans u))
      · replace H := H.2 c2
        replace hF := hF.trans (if_neg c2)
        obtain ⟨a10, e_a10, H⟩ := H
        refine z_nn_of e_a10 ?_
        replace hF := hF.trans (q_ste (q_gd e_a10))
        refine And.intro H.1 ?_
        replace H := H.2
        obtain ⟨a13, e_a13, H⟩ := H
        refine z_nn_of e_a13 ?_
        replace hF := hF.trans (q_ste (q_gd e_a13))
        refine cS_X9_lowestLost H (fun x_12 M_12 H u => ?_)
        replace hF := hF.trans (q_ste2 u)
        obtain ⟨a15, e_a15, H⟩ := H
        refine z_nn_of e_a15 ?_
        replace hF := hF.trans (q_ste (q_gd e_a15))
        refine And.intro H.1 ?_
        replace H := H.2
        obtain ⟨a18, e_a18, H⟩ := H
        refine z_nn_of e_a18 ?_
        replace hF := hF.trans (q_ste (q_gd e_a18))
        refine cS_X9_lostInARow H (fun x_17 M_17 H u => ?_)
        replace hF := hF.trans (q_ste2 u)
        refine cS_X1_sendPacket H (fun M_19 H u => ?_)
        replace hF := hF.trans (q_ste u.symm)
        exact K _ _ H (cUr_X1_sendLost_2 hF)
set_option maxRecDepth 100000 in
noncomputable def cF_X1_sendLost (a : Nat) (p1 : Option Nat) (M : z_Mem) : (Int32 × z_Mem) := (cF_X1_sendLost_2 a p1 0 M)
set_option maxRecDepth 100000 in
theorem cE_X1_sendLost (a : Nat) (p1 : Option Nat) (M : z_Mem) : cF_X1_sendLost a p1 M = (cF_X1_sendLost_2 a p1 0 M) := rfl
set_option maxRecDepth 100000 in
set_option maxHeartbeats 4000000 in
theorem cS_X1_sendLost {Q Post : Int32 → z_Mem → Prop} {a : Nat} {p1 : Option Nat} {M : z_Mem} (H : P_X1_sendLost a p1 M Q) (K : ∀ x M1, Q x M1 → cF_X1_sendLost a p1 M = (x, M1) → Post x M1) : P_X1_sendLost a p1 M Post := by
  have hF := cE_X1_sendLost a p1 M
  unfold P_X1_sendLost at H ⊢
  obtain ⟨m, H⟩ := H
  refine ⟨m, ?_⟩
  exact cS_X1_sendLost_2 m H (fun x M1 q u => K x M1 q (hF.trans u))
set_option maxRecDepth 100000 in
noncomputable def cF_X9_canSendAnew (a : Nat) (p1 : Int32) (M : z_Mem) : (Int32 × z_Mem) := (q_st ((if (p1 < (((if ((z_fi M 1156 a) < (z_fi M 1152 a)) then (z_fi M 1156 a) else (z_fi M 1152 a)) : Int32) - (z_fi M 1153 a))) then p1 else (((if ((z_fi M 1156 a) < (z_fi M 1152 a)) then (z_fi M 1156 a) else (z_fi M 1152 a)) : Int32) - (z_fi M 1153 a))) : Int32) (fun (x_4 : Int32) => (((if (0 < ((if (10 < x_4) then 10 else x_4) : Int32)) then ((if (10 < x_4) then 10 else x_4) : Int32) else 0) : Int32), M)))
set_option maxRecDepth 100000 in
theorem cE_X9_canSendAnew (a : Nat) (p1 : Int32) (M : z_Mem) : cF_X9_canSendAnew a p1 M = (q_st ((if (p1 < (((if ((z_fi M 1156 a) < (z_fi M 1152 a)) then (z_fi M 1156 a) else (z_fi M 1152 a)) : Int32) - (z_fi M 1153 a))) then p1 else (((if ((z_fi M 1156 a) < (z_fi M 1152 a)) then (z_fi M 1156 a) else (z_fi M 1152 a)) : Int32) - (z_fi M 1153 a))) : Int32) (fun (x_4 : Int32) => (((if (0 < ((if (10 < x_4) then 10 else x_4) : Int32)) then ((if (10 < x_4) then 10 else x_4) : Int32) else 0) : Int32), M))) := rfl
set_option maxRecDepth 100000 in
set_option maxHeartbeats 4000000 in
theorem cS_X9_canSendAnew {Q Post : Int32 → z_Mem → Prop} {a : Nat} {p1 : Int32} {M : z_Mem} (H : P_X9_canSendAnew a p1 M Q) (K : ∀ x M1, Q x M1 → cF_X9_canSendAnew a p1 M = (x, M1) → Post x M1) : P_X9_canSendAnew a p1 M Post := by
  have hF := cE_X9_canSendAnew a p1 M
  unfold P_X9_canSendAnew at H ⊢
  intro x_4 e_x_4
  replace H := H x_4 e_x_4
  replace hF := hF.trans (q_ste e_x_4)
  exact K _ _ H hF
set_option maxRecDepth 100000 in
noncomputable def cB_X1_sendNew_32 (a : Nat) (x1 : Option Nat) (x2 : Int32) (x3 : Int32) (M : z_Mem) : (Option Nat × Int32 × Int32 × z_Mem) ⊕ (Int32 × z_Mem) := (if (4 < x3) then (.inr (0, M)) else (q_st (((z_fi M 145 a) + x3) - ((((z_fi M 145 a) + x3) / 4) * 4)) (fun (x_3 : Int32) => (q_st (Option.getD (z_fr M 129 a) 0) (fun (a5 : Nat) => (q_st (Option.getD (z_ar M a5 (x_3 : Int32).toNatClampNeg) 0) (fun (a8 : Nat) => (q_st2 (cF_X9_canSendAnew a8 x2 M) (fun (x_7 : Int32) (M_7 : z_Mem) => (if (x_7 ≤ 0) then (q_st (x3 + 1) (fun (x_10 : Int32) => (.inl (x1, x2, x_10, M_7)))) else (q_st (z_sfi M_7 145 a x_3) (fun (M_11 : z_Mem) => (q_st (Option.getD (z_fr M_11 129 a) 0) (fun (a13 : Nat) => (q_st (Option.getD (z_ar M_11 a13 (x_3 : Int32).toNatClampNeg) 0) (fun (a15 : Nat) => (q_st (cF_X1_sendPacket a x1 x_3 (z_fi M_11 1153 a15) x_7 0 M_11) (fun (M_17 : z_Mem) => (.inr (1, M_17))))))))))))))))))))
set_option maxRecDepth 100000 in
noncomputable def cF_X1_sendNew_32 (a : Nat) (x1 : Option Nat) (x2 : Int32) (x3 : Int32) (M : z_Mem) : (Int32 × z_Mem) := q_lp (X := (Option Nat × Int32 × Int32 × z_Mem)) (Y := (Int32 × z_Mem)) ((0 : Int32), M) (fun t => cB_X1_sendNew_32 a t.1 t.2.1 t.2.2.1 t.2.2.2) (x1, x2, x3, M)
set_option maxRecDepth 100000 in
theorem cUl_X1_sendNew_32 {a : Nat} {x1 : Option Nat} {x2 : Int32} {x3 : Int32} {M : z_Mem} {y_x1 : Option Nat} {y_x2 : Int32} {y_x3 : Int32} {M1 : z_Mem} (h : cB_X1_sendNew_32 a x1 x2 x3 M = .inl (y_x1, y_x2, y_x3, M1)) : cF_X1_sendNew_32 a x1 x2 x3 M = cF_X1_sendNew_32 a y_x1 y_x2 y_x3 M1 := q_lpl (step := fun t => cB_X1_sendNew_32 a t.1 t.2.1 t.2.2.1 t.2.2.2) h
set_option maxRecDepth 100000 in
theorem cUr_X1_sendNew_32 {a : Nat} {x1 : Option Nat} {x2 : Int32} {x3 : Int32} {M : z_Mem} {y : (Int32 × z_Mem)} (h : cB_X1_sendNew_32 a x1 x2 x3 M = .inr y) : cF_X1_sendNew_32 a x1 x2 x3 M = y := q_lpr (step := fun t => cB_X1_sendNew_32 a t.1 t.2.1 t.2.2.1 t.2.2.2) h
set_option maxRecDepth 100000 in
theorem cE_X1_sendNew_32 (a : Nat) (x1 : Option Nat) (x2 : Int32) (x3 : Int32) (M : z_Mem) : cB_X1_sendNew_32 a x1 x2 x3 M = (if (4 < x3) then (.inr (0, M)) else (q_st (((z_fi M 145 a) + x3) - ((((z_fi M 145 a) + x3) / 4) * 4)) (fun (x_3 : Int32) => (q_st (Option.getD (z_fr M 129 a) 0) (fun (a5 : Nat) => (q_st (Option.getD (z_ar M a5 (x_3 : Int32).toNatClampNeg) 0) (fun (a8 : Nat) => (q_st2 (cF_X9_canSendAnew a8 x2 M) (fun (x_7 : Int32) (M_7 : z_Mem) => (if (x_7 ≤ 0) then (q_st (x3 + 1) (fun (x_10 : Int32) => (.inl (x1, x2, x_10, M_7)))) else (q_st (z_sfi M_7 145 a x_3) (fun (M_11 : z_Mem) => (q_st (Option.getD (z_fr M_11 129 a) 0) (fun (a13 : Nat) => (q_st (Option.getD (z_ar M_11 a13 (x_3 : Int32).toNatClampNeg) 0) (fun (a15 : Nat) => (q_st (cF_X1_sendPacket a x1 x_3 (z_fi M_11 1153 a15) x_7 0 M_11) (fun (M_17 : z_Mem) => (.inr (1, M_17)))))))))))))))))))) := rfl
set_option maxRecDepth 100000 in
set_option maxHeartbeats 4000000 in
theorem cS_X1_sendNew_32 {Q Post : Int32 → z_Mem → Prop} {a : Nat} : ∀ (m : Nat) {x1 : Option Nat} {x2 : Int32} {x3 : Int32} {M : z_Mem} (H : P_X1_sendNew_32 a Q m x1 x2 x3 M) (K : ∀ x M1, Q x M1 → cF_X1_sendNew_32 a x1 x2 x3 M = (x, M1) → Post x M1), P_X1_sendNew_32 a Post m x1 x2 x3 M := by
  intro m
  induction m with
  | zero => intros; rename_i H _; exact False.elim H
  | succ m ih =>
    intro x1 x2 x3 M H K
    have hF := cE_X1_sendNew_32 a x1 x2 x3 M
    unfold P_X1_sendNew_32 at H ⊢
    refine And.intro (fun c1 => ?_) (fun c1 => ?_)
    · replace H := H.1 c1
      replace hF := hF.trans (if_pos c1)
      exact K _ _ H (cUr_X1_sendNew_32 hF)
    · replace H := H.2 c1
      replace hF := hF.trans (if_neg c1)
      intro x_3 e_x_3
      replace H := H x_3 e_x_3
      replace hF := hF.trans (q_ste e_x_3)
      obtain ⟨a5, e_a5, H⟩ := H
      refine z_nn_of e_a5 ?_
      replace hF := hF.trans (q_ste (q_gd e_a5))
      refine And.intro H.1 ?_
      replace H := H.2
      obtain ⟨a8, e_a8, H⟩ := H
      refine z_nn_of e_a8 ?_
      replace hF := hF.trans (q_ste (q_gd e_a8))
      refine cS_X9_canSendAnew H (fun x_7 M_7 H u => ?_)
      replace hF := hF.trans (q_ste2 u)
      refine And.intro (fun c2 => ?_) (fun c2 => ?_)
      · replace H := H.1 c2
        replace hF := hF.trans (if_pos c2)
        intro x_10 e_x_10
        replace H := H x_10 e_x_10
        replace hF := hF.trans (q_ste e_x_10)
        replace hF := cUl_X1_sendNew_32 hF
        exact ih H (fun x M1 q u => K x M1 q (hF.trans u))
      · replace H := H.2 c2
        replace hF := hF.trans (if_neg c2)
        intro M_11 e_M_11
        replace H := H M_11 e_M_11
        replace hF := hF.trans (q_ste e_M_11)
        obtain ⟨a13, e_a13, H⟩ := H
        refine z_nn_of e_a13 ?_
        replace hF := hF.trans (q_ste (q_gd e_a13))
        refine And.intro H.1 ?_
        replace H := H.2
        obtain ⟨a15, e_a15, H⟩ := H
        refine z_nn_of e_a15 ?_
        replace hF := hF.trans (q_ste (q_gd e_a15))
        refine cS_X1_sendPacket H (fun M_17 H u => ?_)
        replace hF := hF.trans (q_ste u.symm)
        exact K _ _ H (cUr_X1_sendNew_32 hF)
set_option maxRecDepth 100000 in
noncomputable def cB_X1_sendNew_7 (a : Nat) (x1 : Option Nat) (x2 : Int32) (x3 : Int32) (M : z_Mem) : (Option Nat × Int32 × Int32 × z_Mem) ⊕ (Int32 × z_Mem) := (if (4 ≤ x3) then (.inr (cF_X1_sendNew_32 a x1 x2 1 M)) else (q_st (Option.getD (z_fr M 129 a) 0) (fun (a21 : Nat) => (q_st (Option.getD (z_ar M a21 (x3 : Int32).toNatClampNeg) 0) (fun (a23 : Nat) => (q_st (x2 - (z_fi M 1153 a23)) (fun (x_25 : Int32) => (q_st (x3 + 1) (fun (x_26 : Int32) => (.inl (x1, x_25, x_26, M)))))))))))
set_option maxRecDepth 100000 in
noncomputable def cF_X1_sendNew_7 (a : Nat) (x1 : Option Nat) (x2 : Int32) (x3 : Int32) (M : z_Mem) : (Int32 × z_Mem) := q_lp (X := (Option Nat × Int32 × Int32 × z_Mem)) (Y := (Int32 × z_Mem)) ((0 : Int32), M) (fun t => cB_X1_sendNew_7 a t.1 t.2.1 t.2.2.1 t.2.2.2) (x1, x2, x3, M)
set_option maxRecDepth 100000 in
theorem cUl_X1_sendNew_7 {a : Nat} {x1 : Option Nat} {x2 : Int32} {x3 : Int32} {M : z_Mem} {y_x1 : Option Nat} {y_x2 : Int32} {y_x3 : Int32} {M1 : z_Mem} (h : cB_X1_sendNew_7 a x1 x2 x3 M = .inl (y_x1, y_x2, y_x3, M1)) : cF_X1_sendNew_7 a x1 x2 x3 M = cF_X1_sendNew_7 a y_x1 y_x2 y_x3 M1 := q_lpl (step := fun t => cB_X1_sendNew_7 a t.1 t.2.1 t.2.2.1 t.2.2.2) h
set_option maxRecDepth 100000 in
theorem cUr_X1_sendNew_7 {a : Nat} {x1 : Option Nat} {x2 : Int32} {x3 : Int32} {M : z_Mem} {y : (Int32 × z_Mem)} (h : cB_X1_sendNew_7 a x1 x2 x3 M = .inr y) : cF_X1_sendNew_7 a x1 x2 x3 M = y := q_lpr (step := fun t => cB_X1_sendNew_7 a t.1 t.2.1 t.2.2.1 t.2.2.2) h
set_option maxRecDepth 100000 in
theorem cE_X1_sendNew_7 (a : Nat) (x1 : Option Nat) (x2 : Int32) (x3 : Int32) (M : z_Mem) : cB_X1_sendNew_7 a x1 x2 x3 M = (if (4 ≤ x3) then (.inr (cF_X1_sendNew_32 a x1 x2 1 M)) else (q_st (Option.getD (z_fr M 129 a) 0) (fun (a21 : Nat) => (q_st (Option.getD (z_ar M a21 (x3 : Int32).toNatClampNeg) 0) (fun (a23 : Nat) => (q_st (x2 - (z_fi M 1153 a23)) (fun (x_25 : Int32) => (q_st (x3 + 1) (fun (x_26 : Int32) => (.inl (x1, x_25, x_26, M))))))))))) := rfl
set_option maxRecDepth 100000 in
set_option maxHeartbeats 4000000 in
theorem cS_X1_sendNew_7 {Q Post : Int32 → z_Mem → Prop} {a : Nat} : ∀ (m : Nat) {x1 : Option Nat} {x2 : Int32} {x3 : Int32} {M : z_Mem} (H : P_X1_sendNew_7 a Q m x1 x2 x3 M) (K : ∀ x M1, Q x M1 → cF_X1_sendNew_7 a x1 x2 x3 M = (x, M1) → Post x M1), P_X1_sendNew_7 a Post m x1 x2 x3 M := by
  intro m
  induction m with
  | zero => intros; rename_i H _; exact False.elim H
  | succ m ih =>
    intro x1 x2 x3 M H K
    have hF := cE_X1_sendNew_7 a x1 x2 x3 M
    unfold P_X1_sendNew_7 at H ⊢
    refine And.intro (fun c1 => ?_) (fun c1 => ?_)
    · replace H := H.1 c1
      replace hF := hF.trans (if_pos c1)
      obtain ⟨m, H⟩ := H
      refine ⟨m, ?_⟩
      exact cS_X1_sendNew_32 m H (fun x M1 q u => K x M1 q (cUr_X1_sendNew_7 (hF.trans (congrArg Sum.inr u))))
    · replace H := H.2 c1
      replace hF := hF.trans (if_neg c1)
      obtain ⟨a21, e_a21, H⟩ := H
      refine z_nn_of e_a21 ?_
      replace hF := hF.trans (q_ste (q_gd e_a21))
      refine And.intro H.1 ?_
      replace H := H.2
      obtain ⟨a23, e_a23, H⟩ := H
      refine z_nn_of e_a23 ?_
      replace hF := hF.trans (q_ste (q_gd e_a23))
      intro x_25 e_x_25
      replace H := H x_25 e_x_25
      replace hF := hF.trans (q_ste e_x_25)
      intro x_26 e_x_26
      replace H := H x_26 e_x_26
      replace hF := hF.trans (q_ste e_x_26)
      replace hF := cUl_X1_sendNew_7 hF
      exact ih H (fun x M1 q u => K x M1 q (hF.trans u))
set_option maxRecDepth 100000 in
noncomputable def cF_X1_sendNew (a : Nat) (p1 : Option Nat) (M : z_Mem) : (Int32 × z_Mem) := (q_st (z_fi M 144 a) (fun (x_28 : Int32) => (cF_X1_sendNew_7 a p1 x_28 0 M)))
set_option maxRecDepth 100000 in
theorem cE_X1_sendNew (a : Nat) (p1 : Option Nat) (M : z_Mem) : cF_X1_sendNew a p1 M = (q_st (z_fi M 144 a) (fun (x_28 : Int32) => (cF_X1_sendNew_7 a p1 x_28 0 M))) := rfl
set_option maxRecDepth 100000 in
set_option maxHeartbeats 4000000 in
theorem cS_X1_sendNew {Q Post : Int32 → z_Mem → Prop} {a : Nat} {p1 : Option Nat} {M : z_Mem} (H : P_X1_sendNew a p1 M Q) (K : ∀ x M1, Q x M1 → cF_X1_sendNew a p1 M = (x, M1) → Post x M1) : P_X1_sendNew a p1 M Post := by
  have hF := cE_X1_sendNew a p1 M
  unfold P_X1_sendNew at H ⊢
  intro x_28 e_x_28
  replace H := H x_28 e_x_28
  replace hF := hF.trans (q_ste e_x_28)
  obtain ⟨m, H⟩ := H
  refine ⟨m, ?_⟩
  exact cS_X1_sendNew_7 m H (fun x M1 q u => K x M1 q (hF.trans u))
set_option maxRecDepth 100000 in
noncomputable def cF_X1_sendData_81 (a : Nat) (x1 : Int32) (x2 : Option Nat) (M : z_Mem) : ((Int32 × z_Mem) ⊕ z_Mem) := (q_st (Option.getD x2 0) (fun (a1 : Nat) => (q_st (z_sfi M 909 a1 ((z_fi M 909 a1) + 1)) (fun (M_3 : z_Mem) => (q_st (x1 + 1) (fun (x_4 : Int32) => (.inl (x_4, M_3))))))))
set_option maxRecDepth 100000 in
theorem cE_X1_sendData_81 (a : Nat) (x1 : Int32) (x2 : Option Nat) (M : z_Mem) : cF_X1_sendData_81 a x1 x2 M = (q_st (Option.getD x2 0) (fun (a1 : Nat) => (q_st (z_sfi M 909 a1 ((z_fi M 909 a1) + 1)) (fun (M_3 : z_Mem) => (q_st (x1 + 1) (fun (x_4 : Int32) => (.inl (x_4, M_3)))))))) := rfl
set_option maxRecDepth 100000 in
set_option maxHeartbeats 4000000 in
theorem cS_X1_sendData_81 {Q Post : z_Mem → Prop} {a : Nat} {x1 : Int32} {x2 : Option Nat} {QJ46 PJ46 : Int32 → z_Mem → Prop} {M : z_Mem} (H : P_X1_sendData_81 a Q QJ46 x1 x2 M) (K : ∀ M1, Q M1 → cF_X1_sendData_81 a x1 x2 M = (.inr M1) → Post M1) (KJ46 : ∀ v0 M1, QJ46 v0 M1 → cF_X1_sendData_81 a x1 x2 M = (.inl (v0, M1)) → PJ46 v0 M1) : P_X1_sendData_81 a Post PJ46 x1 x2 M := by
  have hF := cE_X1_sendData_81 a x1 x2 M
  unfold P_X1_sendData_81 at H ⊢
  obtain ⟨a1, e_a1, H⟩ := H
  refine z_nn_of e_a1 ?_
  replace hF := hF.trans (q_ste (q_gd e_a1))
  intro M_3 e_M_3
  replace H := H M_3 e_M_3
  replace hF := hF.trans (q_ste e_M_3)
  intro x_4 e_x_4
  replace H := H x_4 e_x_4
  replace hF := hF.trans (q_ste e_x_4)
  exact KJ46 _ _ H hF
set_option maxRecDepth 100000 in
noncomputable def cB_X1_sendData_46 (a : Nat) (x1 : Int32) (M : z_Mem) : (Int32 × z_Mem) ⊕ z_Mem := (if (400 ≤ x1) then (.inr M) else (q_st2 (cF_X1_routeToSend a M) (fun (x_6 : Option Nat) (M_6 : z_Mem) => (q_op x_6 (.inr M_6) (fun a7 => (q_st2 (cF_X1_sendLost a x_6 M_6) (fun (x_8 : Int32) (M_8 : z_Mem) => (if (x_8 = 0) then (q_st2 (cF_X1_sendNew a x_6 M_8) (fun (x_10 : Int32) (M_10 : z_Mem) => (if (x_10 = 0) then (.inr M_10) else (cF_X1_sendData_81 a x1 x_6 M_10)))) else (cF_X1_sendData_81 a x1 x_6 M_8)))))))))
set_option maxRecDepth 100000 in
noncomputable def cF_X1_sendData_46 (a : Nat) (x1 : Int32) (M : z_Mem) : z_Mem := q_lp (X := (Int32 × z_Mem)) (Y := z_Mem) M (fun t => cB_X1_sendData_46 a t.1 t.2) (x1, M)
set_option maxRecDepth 100000 in
theorem cUl_X1_sendData_46 {a : Nat} {x1 : Int32} {M : z_Mem} {y_x1 : Int32} {M1 : z_Mem} (h : cB_X1_sendData_46 a x1 M = .inl (y_x1, M1)) : cF_X1_sendData_46 a x1 M = cF_X1_sendData_46 a y_x1 M1 := q_lpl (step := fun t => cB_X1_sendData_46 a t.1 t.2) h
set_option maxRecDepth 100000 in
theorem cUr_X1_sendData_46 {a : Nat} {x1 : Int32} {M : z_Mem} {y : z_Mem} (h : cB_X1_sendData_46 a x1 M = .inr y) : cF_X1_sendData_46 a x1 M = y := q_lpr (step := fun t => cB_X1_sendData_46 a t.1 t.2) h
set_option maxRecDepth 100000 in
theorem cE_X1_sendData_46 (a : Nat) (x1 : Int32) (M : z_Mem) : cB_X1_sendData_46 a x1 M = (if (400 ≤ x1) then (.inr M) else (q_st2 (cF_X1_routeToSend a M) (fun (x_6 : Option Nat) (M_6 : z_Mem) => (q_op x_6 (.inr M_6) (fun a7 => (q_st2 (cF_X1_sendLost a x_6 M_6) (fun (x_8 : Int32) (M_8 : z_Mem) => (if (x_8 = 0) then (q_st2 (cF_X1_sendNew a x_6 M_8) (fun (x_10 : Int32) (M_10 : z_Mem) => (if (x_10 = 0) then (.inr M_10) else (cF_X1_sendData_81 a x1 x_6 M_10)))) else (cF_X1_sendData_81 a x1 x_6 M_8))))))))) := rfl
set_option maxRecDepth 100000 in
set_option maxHeartbeats 4000000 in
theorem cS_X1_sendData_46 {Q Post : z_Mem → Prop} {a : Nat} : ∀ (m : Nat) {x1 : Int32} {M : z_Mem} (H : P_X1_sendData_46 a Q m x1 M) (K : ∀ M1, Q M1 → cF_X1_sendData_46 a x1 M = M1 → Post M1), P_X1_sendData_46 a Post m x1 M := by
  intro m
  induction m with
  | zero => intros; rename_i H _; exact False.elim H
  | succ m ih =>
    intro x1 M H K
    have hF := cE_X1_sendData_46 a x1 M
    unfold P_X1_sendData_46 at H ⊢
    refine And.intro (fun c1 => ?_) (fun c1 => ?_)
    · replace H := H.1 c1
      replace hF := hF.trans (if_pos c1)
      exact K _ H (cUr_X1_sendData_46 hF)
    · replace H := H.2 c1
      replace hF := hF.trans (if_neg c1)
      refine cS_X1_routeToSend H (fun x_6 M_6 H u => ?_)
      replace hF := hF.trans (q_ste2 u)
      refine And.intro (fun c2 => ?_) (fun a7 c2 => ?_)
      · replace H := H.1 c2
        replace hF := hF.trans (q_opn c2)
        exact K _ H (cUr_X1_sendData_46 hF)
      · replace H := H.2 a7 c2
        replace hF := hF.trans (q_ops c2)
        refine cS_X1_sendLost H (fun x_8 M_8 H u => ?_)
        replace hF := hF.trans (q_ste2 u)
        refine And.intro (fun c3 => ?_) (fun c3 => ?_)
        · replace H := H.1 c3
          replace hF := hF.trans (if_pos c3)
          refine cS_X1_sendNew H (fun x_10 M_10 H u => ?_)
          replace hF := hF.trans (q_ste2 u)
          refine And.intro (fun c4 => ?_) (fun c4 => ?_)
          · replace H := H.1 c4
            replace hF := hF.trans (if_pos c4)
            exact K _ H (cUr_X1_sendData_46 hF)
          · replace H := H.2 c4
            replace hF := hF.trans (if_neg c4)
            exact cS_X1_sendData_81 H (fun M1 q u => K M1 q (cUr_X1_sendData_46 (hF.trans u))) (fun v0 M1 q u => ih q (fun M1 q u2 => K M1 q ((cUl_X1_sendData_46 (hF.trans u)).trans u2))) 
        · replace H := H.2 c3
          replace hF := hF.trans (if_neg c3)
          exact cS_X1_sendData_81 H (fun M1 q u => K M1 q (cUr_X1_sendData_46 (hF.trans u))) (fun v0 M1 q u => ih q (fun M1 q u2 => K M1 q ((cUl_X1_sendData_46 (hF.trans u)).trans u2))) 
set_option maxRecDepth 100000 in
noncomputable def cF_X1_sendData_41 (a : Nat) (M : z_Mem) : z_Mem := (q_st (z_fi M 133 a) (fun (x_13 : Int32) => (cF_X1_sendData_46 a x_13 M)))
set_option maxRecDepth 100000 in
theorem cE_X1_sendData_41 (a : Nat) (M : z_Mem) : cF_X1_sendData_41 a M = (q_st (z_fi M 133 a) (fun (x_13 : Int32) => (cF_X1_sendData_46 a x_13 M))) := rfl
set_option maxRecDepth 100000 in
set_option maxHeartbeats 4000000 in
theorem cS_X1_sendData_41 {Q Post : z_Mem → Prop} {a : Nat} {M : z_Mem} (H : P_X1_sendData_41 a Q M) (K : ∀ M1, Q M1 → cF_X1_sendData_41 a M = M1 → Post M1) : P_X1_sendData_41 a Post M := by
  have hF := cE_X1_sendData_41 a M
  unfold P_X1_sendData_41 at H ⊢
  intro x_13 e_x_13
  replace H := H x_13 e_x_13
  replace hF := hF.trans (q_ste e_x_13)
  obtain ⟨m, H⟩ := H
  refine ⟨m, ?_⟩
  exact cS_X1_sendData_46 m H (fun M1 q u => K M1 q (hF.trans u))
set_option maxRecDepth 100000 in
noncomputable def cF_X1_sendData (a : Nat) (M : z_Mem) : z_Mem := (q_st (Option.getD (z_fr M 130 a) 0) (fun (a16 : Nat) => (q_st (z_sfi M 909 a16 0) (fun (M_17 : z_Mem) => (q_st (Option.getD (z_fr M_17 131 a) 0) (fun (a19 : Nat) => (q_st (z_sfi M_17 909 a19 0) (fun (M_20 : z_Mem) => (if ((z_fi M_20 135 a) = 2) then (cF_X1_sendData_41 a M_20) else (if ((z_fi M_20 135 a) = 1) then (if ((z_fi M_20 136 a) = (-1)) then M_20 else (cF_X1_sendData_41 a M_20)) else M_20))))))))))
set_option maxRecDepth 100000 in
theorem cE_X1_sendData (a : Nat) (M : z_Mem) : cF_X1_sendData a M = (q_st (Option.getD (z_fr M 130 a) 0) (fun (a16 : Nat) => (q_st (z_sfi M 909 a16 0) (fun (M_17 : z_Mem) => (q_st (Option.getD (z_fr M_17 131 a) 0) (fun (a19 : Nat) => (q_st (z_sfi M_17 909 a19 0) (fun (M_20 : z_Mem) => (if ((z_fi M_20 135 a) = 2) then (cF_X1_sendData_41 a M_20) else (if ((z_fi M_20 135 a) = 1) then (if ((z_fi M_20 136 a) = (-1)) then M_20 else (cF_X1_sendData_41 a M_20)) else M_20)))))))))) := rfl
set_option maxRecDepth 100000 in
set_option maxHeartbeats 4000000 in
theorem cS_X1_sendData {Q Post : z_Mem → Prop} {a : Nat} {M : z_Mem} (H : P_X1_sendData a M Q) (K : ∀ M1, Q M1 → cF_X1_sendData a M = M1 → Post M1) : P_X1_sendData a M Post := by
  have hF := cE_X1_sendData a M
  unfold P_X1_sendData at H ⊢
  obtain ⟨a16, e_a16, H⟩ := H
  refine z_nn_of e_a16 ?_
  replace hF := hF.trans (q_ste (q_gd e_a16))
  intro M_17 e_M_17
  replace H := H M_17 e_M_17
  replace hF := hF.trans (q_ste e_M_17)
  obtain ⟨a19, e_a19, H⟩ := H
  refine z_nn_of e_a19 ?_
  replace hF := hF.trans (q_ste (q_gd e_a19))
  intro M_20 e_M_20
  replace H := H M_20 e_M_20
  replace hF := hF.trans (q_ste e_M_20)
  refine And.intro (fun c1 => ?_) (fun c1 => ?_)
  · replace H := H.1 c1
    replace hF := hF.trans (if_pos c1)
    exact cS_X1_sendData_41 H (fun M1 q u => K M1 q (hF.trans u))
  · replace H := H.2 c1
    replace hF := hF.trans (if_neg c1)
    refine And.intro (fun c2 => ?_) (fun c2 => ?_)
    · replace H := H.1 c2
      replace hF := hF.trans (if_pos c2)
      refine And.intro (fun c3 => ?_) (fun c3 => ?_)
      · replace H := H.1 c3
        replace hF := hF.trans (if_pos c3)
        exact K _ H hF
      · replace H := H.2 c3
        replace hF := hF.trans (if_neg c3)
        exact cS_X1_sendData_41 H (fun M1 q u => K M1 q (hF.trans u))
    · replace H := H.2 c2
      replace hF := hF.trans (if_neg c2)
      exact K _ H hF
set_option maxRecDepth 100000 in
noncomputable def cF_X3_letsToClient (a : Nat) (M : z_Mem) : (Int32 × z_Mem) := (if ((z_fi M 388 a) = 0) then (0, M) else (if ((z_fi M 390 a) ≤ 0) then (1, M) else (q_st (z_sfi M 390 a ((z_fi M 390 a) - 1)) (fun (M_6 : z_Mem) => (0, M_6)))))
set_option maxRecDepth 100000 in
theorem cE_X3_letsToClient (a : Nat) (M : z_Mem) : cF_X3_letsToClient a M = (if ((z_fi M 388 a) = 0) then (0, M) else (if ((z_fi M 390 a) ≤ 0) then (1, M) else (q_st (z_sfi M 390 a ((z_fi M 390 a) - 1)) (fun (M_6 : z_Mem) => (0, M_6))))) := rfl
set_option maxRecDepth 100000 in
set_option maxHeartbeats 4000000 in
theorem cS_X3_letsToClient {Q Post : Int32 → z_Mem → Prop} {a : Nat} {M : z_Mem} (H : P_X3_letsToClient a M Q) (K : ∀ x M1, Q x M1 → cF_X3_letsToClient a M = (x, M1) → Post x M1) : P_X3_letsToClient a M Post := by
  have hF := cE_X3_letsToClient a M
  unfold P_X3_letsToClient at H ⊢
  refine And.intro (fun c1 => ?_) (fun c1 => ?_)
  · replace H := H.1 c1
    replace hF := hF.trans (if_pos c1)
    exact K _ _ H hF
  · replace H := H.2 c1
    replace hF := hF.trans (if_neg c1)
    refine And.intro (fun c2 => ?_) (fun c2 => ?_)
    · replace H := H.1 c2
      replace hF := hF.trans (if_pos c2)
      exact K _ _ H hF
    · replace H := H.2 c2
      replace hF := hF.trans (if_neg c2)
      intro M_6 e_M_6
      replace H := H M_6 e_M_6
      replace hF := hF.trans (q_ste e_M_6)
      exact K _ _ H hF
set_option maxRecDepth 100000 in
noncomputable def cF_X3_removeFirst (a : Nat) (M : z_Mem) : (Option Nat × z_Mem) := (q_st (Option.getD (z_fr M 393 a) 0) (fun (a3 : Nat) => (q_st (Option.getD (z_fr M 393 a) 0) (fun (a7 : Nat) => (q_st (z_sar M a7 ((z_fi M 394 a) : Int32).toNatClampNeg none) (fun (M_9 : z_Mem) => (q_st (z_sfi M_9 394 a (((z_fi M_9 394 a) + 1) - ((((z_fi M_9 394 a) + 1) / 30) * 30))) (fun (M_11 : z_Mem) => (q_st (z_sfi M_11 395 a ((z_fi M_11 395 a) - 1)) (fun (M_13 : z_Mem) => ((z_ar M a3 ((z_fi M 394 a) : Int32).toNatClampNeg), M_13)))))))))))
set_option maxRecDepth 100000 in
theorem cE_X3_removeFirst (a : Nat) (M : z_Mem) : cF_X3_removeFirst a M = (q_st (Option.getD (z_fr M 393 a) 0) (fun (a3 : Nat) => (q_st (Option.getD (z_fr M 393 a) 0) (fun (a7 : Nat) => (q_st (z_sar M a7 ((z_fi M 394 a) : Int32).toNatClampNeg none) (fun (M_9 : z_Mem) => (q_st (z_sfi M_9 394 a (((z_fi M_9 394 a) + 1) - ((((z_fi M_9 394 a) + 1) / 30) * 30))) (fun (M_11 : z_Mem) => (q_st (z_sfi M_11 395 a ((z_fi M_11 395 a) - 1)) (fun (M_13 : z_Mem) => ((z_ar M a3 ((z_fi M 394 a) : Int32).toNatClampNeg), M_13))))))))))) := rfl
set_option maxRecDepth 100000 in
set_option maxHeartbeats 4000000 in
theorem cS_X3_removeFirst {Q Post : Option Nat → z_Mem → Prop} {a : Nat} {M : z_Mem} (H : P_X3_removeFirst a M Q) (K : ∀ x M1, Q x M1 → cF_X3_removeFirst a M = (x, M1) → Post x M1) : P_X3_removeFirst a M Post := by
  have hF := cE_X3_removeFirst a M
  unfold P_X3_removeFirst at H ⊢
  obtain ⟨a3, e_a3, H⟩ := H
  refine z_nn_of e_a3 ?_
  replace hF := hF.trans (q_ste (q_gd e_a3))
  refine And.intro H.1 ?_
  replace H := H.2
  obtain ⟨a7, e_a7, H⟩ := H
  refine z_nn_of e_a7 ?_
  replace hF := hF.trans (q_ste (q_gd e_a7))
  refine And.intro H.1 ?_
  replace H := H.2
  intro M_9 e_M_9
  replace H := H M_9 e_M_9
  replace hF := hF.trans (q_ste e_M_9)
  intro M_11 e_M_11
  replace H := H M_11 e_M_11
  replace hF := hF.trans (q_ste e_M_11)
  intro M_13 e_M_13
  replace H := H M_13 e_M_13
  replace hF := hF.trans (q_ste e_M_13)
  exact K _ _ H hF
set_option maxRecDepth 100000 in
noncomputable def cF_X3_takeLateness (a : Nat) (M : z_Mem) : (Int32 × z_Mem) := (if (0 < (z_fi M 391 a)) then (q_st (z_sfi M 391 a ((z_fi M 391 a) - 1)) (fun (M_4 : z_Mem) => ((z_fi M_4 392 a), M_4))) else (0, M))
set_option maxRecDepth 100000 in
theorem cE_X3_takeLateness (a : Nat) (M : z_Mem) : cF_X3_takeLateness a M = (if (0 < (z_fi M 391 a)) then (q_st (z_sfi M 391 a ((z_fi M 391 a) - 1)) (fun (M_4 : z_Mem) => ((z_fi M_4 392 a), M_4))) else (0, M)) := rfl
set_option maxRecDepth 100000 in
set_option maxHeartbeats 4000000 in
theorem cS_X3_takeLateness {Q Post : Int32 → z_Mem → Prop} {a : Nat} {M : z_Mem} (H : P_X3_takeLateness a M Q) (K : ∀ x M1, Q x M1 → cF_X3_takeLateness a M = (x, M1) → Post x M1) : P_X3_takeLateness a M Post := by
  have hF := cE_X3_takeLateness a M
  unfold P_X3_takeLateness at H ⊢
  refine And.intro (fun c1 => ?_) (fun c1 => ?_)
  · replace H := H.1 c1
    replace hF := hF.trans (if_pos c1)
    intro M_4 e_M_4
    replace H := H M_4 e_M_4
    replace hF := hF.trans (q_ste e_M_4)
    exact K _ _ H hF
  · replace H := H.2 c1
    replace hF := hF.trans (if_neg c1)
    exact K _ _ H hF
set_option maxRecDepth 100000 in
noncomputable def cF_X10_append (a : Nat) (p1 : Option Nat) (p2 : Int32) (M : z_Mem) : z_Mem := (q_st (Option.getD (z_fr M 1280 a) 0) (fun (a3 : Nat) => (if ((nI (z_ln M a3)) ≤ (z_fi M 1281 a)) then M else (q_st (Option.getD p1 0) (fun (a5 : Nat) => (q_st (z_sfi M 514 a5 p2) (fun (M_6 : z_Mem) => (q_st (Option.getD (z_fr M_6 1280 a) 0) (fun (a9 : Nat) => (q_st (z_sar M_6 a9 ((z_fi M_6 1281 a) : Int32).toNatClampNeg p1) (fun (M_11 : z_Mem) => (q_st (z_sfi M_11 1281 a ((z_fi M_11 1281 a) + 1)) (fun (M_13 : z_Mem) => M_13)))))))))))))
set_option maxRecDepth 100000 in
theorem cE_X10_append (a : Nat) (p1 : Option Nat) (p2 : Int32) (M : z_Mem) : cF_X10_append a p1 p2 M = (q_st (Option.getD (z_fr M 1280 a) 0) (fun (a3 : Nat) => (if ((nI (z_ln M a3)) ≤ (z_fi M 1281 a)) then M else (q_st (Option.getD p1 0) (fun (a5 : Nat) => (q_st (z_sfi M 514 a5 p2) (fun (M_6 : z_Mem) => (q_st (Option.getD (z_fr M_6 1280 a) 0) (fun (a9 : Nat) => (q_st (z_sar M_6 a9 ((z_fi M_6 1281 a) : Int32).toNatClampNeg p1) (fun (M_11 : z_Mem) => (q_st (z_sfi M_11 1281 a ((z_fi M_11 1281 a) + 1)) (fun (M_13 : z_Mem) => M_13))))))))))))) := rfl
set_option maxRecDepth 100000 in
set_option maxHeartbeats 4000000 in
theorem cS_X10_append {Q Post : z_Mem → Prop} {a : Nat} {p1 : Option Nat} {p2 : Int32} {M : z_Mem} (H : P_X10_append a p1 p2 M Q) (K : ∀ M1, Q M1 → cF_X10_append a p1 p2 M = M1 → Post M1) : P_X10_append a p1 p2 M Post := by
  have hF := cE_X10_append a p1 p2 M
  unfold P_X10_append at H ⊢
  obtain ⟨a3, e_a3, H⟩ := H
  refine z_nn_of e_a3 ?_
  replace hF := hF.trans (q_ste (q_gd e_a3))
  refine And.intro (fun c1 => ?_) (fun c1 => ?_)
  · replace H := H.1 c1
    replace hF := hF.trans (if_pos c1)
    exact K _ H hF
  · replace H := H.2 c1
    replace hF := hF.trans (if_neg c1)
    obtain ⟨a5, e_a5, H⟩ := H
    refine z_nn_of e_a5 ?_
    replace hF := hF.trans (q_ste (q_gd e_a5))
    intro M_6 e_M_6
    replace H := H M_6 e_M_6
    replace hF := hF.trans (q_ste e_M_6)
    obtain ⟨a9, e_a9, H⟩ := H
    refine z_nn_of e_a9 ?_
    replace hF := hF.trans (q_ste (q_gd e_a9))
    refine And.intro H.1 ?_
    replace H := H.2
    intro M_11 e_M_11
    replace H := H M_11 e_M_11
    replace hF := hF.trans (q_ste e_M_11)
    intro M_13 e_M_13
    replace H := H M_13 e_M_13
    replace hF := hF.trans (q_ste e_M_13)
    exact K _ H hF
set_option maxRecDepth 100000 in
noncomputable def cF_X5_putToClient (a : Nat) (p1 : Int32) (p2 : Option Nat) (M : z_Mem) : z_Mem := (q_st2 (cF_X5_laneOf a p1 M) (fun (x_1 : Option Nat) (M_1 : z_Mem) => (q_st (Option.getD p2 0) (fun (a2 : Nat) => (q_st (z_sfi M_1 513 a2 p1) (fun (M_3 : z_Mem) => (q_st (Option.getD x_1 0) (fun (a5 : Nat) => (q_st2 (cF_X3_letsToClient a5 M_3) (fun (x_4 : Int32) (M_4 : z_Mem) => (if (x_4 = 0) then M_4 else (q_st (Option.getD (z_fr M_4 643 a) 0) (fun (a11 : Nat) => (q_st (cF_X10_append a11 p2 ((z_fi M_4 645 a) + (z_fi M_4 384 a5)) M_4) (fun (M_10 : z_Mem) => M_10)))))))))))))))
set_option maxRecDepth 100000 in
theorem cE_X5_putToClient (a : Nat) (p1 : Int32) (p2 : Option Nat) (M : z_Mem) : cF_X5_putToClient a p1 p2 M = (q_st2 (cF_X5_laneOf a p1 M) (fun (x_1 : Option Nat) (M_1 : z_Mem) => (q_st (Option.getD p2 0) (fun (a2 : Nat) => (q_st (z_sfi M_1 513 a2 p1) (fun (M_3 : z_Mem) => (q_st (Option.getD x_1 0) (fun (a5 : Nat) => (q_st2 (cF_X3_letsToClient a5 M_3) (fun (x_4 : Int32) (M_4 : z_Mem) => (if (x_4 = 0) then M_4 else (q_st (Option.getD (z_fr M_4 643 a) 0) (fun (a11 : Nat) => (q_st (cF_X10_append a11 p2 ((z_fi M_4 645 a) + (z_fi M_4 384 a5)) M_4) (fun (M_10 : z_Mem) => M_10))))))))))))))) := rfl
set_option maxRecDepth 100000 in
set_option maxHeartbeats 4000000 in
theorem cS_X5_putToClient {Q Post : z_Mem → Prop} {a : Nat} {p1 : Int32} {p2 : Option Nat} {M : z_Mem} (H : P_X5_putToClient a p1 p2 M Q) (K : ∀ M1, Q M1 → cF_X5_putToClient a p1 p2 M = M1 → Post M1) : P_X5_putToClient a p1 p2 M Post := by
  have hF := cE_X5_putToClient a p1 p2 M
  unfold P_X5_putToClient at H ⊢
  refine cS_X5_laneOf H (fun x_1 M_1 H u => ?_)
  replace hF := hF.trans (q_ste2 u)
  obtain ⟨a2, e_a2, H⟩ := H
  refine z_nn_of e_a2 ?_
  replace hF := hF.trans (q_ste (q_gd e_a2))
  intro M_3 e_M_3
  replace H := H M_3 e_M_3
  replace hF := hF.trans (q_ste e_M_3)
  obtain ⟨a5, e_a5, H⟩ := H
  refine z_nn_of e_a5 ?_
  replace hF := hF.trans (q_ste (q_gd e_a5))
  refine cS_X3_letsToClient H (fun x_4 M_4 H u => ?_)
  replace hF := hF.trans (q_ste2 u)
  refine And.intro (fun c1 => ?_) (fun c1 => ?_)
  · replace H := H.1 c1
    replace hF := hF.trans (if_pos c1)
    exact K _ H hF
  · replace H := H.2 c1
    replace hF := hF.trans (if_neg c1)
    obtain ⟨a11, e_a11, H⟩ := H
    refine z_nn_of e_a11 ?_
    replace hF := hF.trans (q_ste (q_gd e_a11))
    refine cS_X10_append H (fun M_10 H u => ?_)
    replace hF := hF.trans (q_ste u.symm)
    exact K _ H hF
set_option maxRecDepth 100000 in
noncomputable def cB_X5_putForeign_9 (a : Nat) (x2 : Int32) (x3 : Option Nat) (x4 : Int32) (M : z_Mem) : (Int32 × Option Nat × Int32 × z_Mem) ⊕ (Int32 × z_Mem) := (if (x2 ≤ x4) then (.inr (x4, M)) else (q_st (Option.getD x3 0) (fun (a3 : Nat) => (q_st2 (cF_X3_hasRoom a3 M) (fun (x_2 : Int32) (M_2 : z_Mem) => (if (x_2 = 0) then (.inr (x4, M_2)) else (q_st (cF_X3_append a3 (z_fr M_2 644 a) M_2) (fun (M_6 : z_Mem) => (q_st (x4 + 1) (fun (x_7 : Int32) => (.inl (x2, x3, x_7, M_6))))))))))))
set_option maxRecDepth 100000 in
noncomputable def cF_X5_putForeign_9 (a : Nat) (x2 : Int32) (x3 : Option Nat) (x4 : Int32) (M : z_Mem) : (Int32 × z_Mem) := q_lp (X := (Int32 × Option Nat × Int32 × z_Mem)) (Y := (Int32 × z_Mem)) ((0 : Int32), M) (fun t => cB_X5_putForeign_9 a t.1 t.2.1 t.2.2.1 t.2.2.2) (x2, x3, x4, M)
set_option maxRecDepth 100000 in
theorem cUl_X5_putForeign_9 {a : Nat} {x2 : Int32} {x3 : Option Nat} {x4 : Int32} {M : z_Mem} {y_x2 : Int32} {y_x3 : Option Nat} {y_x4 : Int32} {M1 : z_Mem} (h : cB_X5_putForeign_9 a x2 x3 x4 M = .inl (y_x2, y_x3, y_x4, M1)) : cF_X5_putForeign_9 a x2 x3 x4 M = cF_X5_putForeign_9 a y_x2 y_x3 y_x4 M1 := q_lpl (step := fun t => cB_X5_putForeign_9 a t.1 t.2.1 t.2.2.1 t.2.2.2) h
set_option maxRecDepth 100000 in
theorem cUr_X5_putForeign_9 {a : Nat} {x2 : Int32} {x3 : Option Nat} {x4 : Int32} {M : z_Mem} {y : (Int32 × z_Mem)} (h : cB_X5_putForeign_9 a x2 x3 x4 M = .inr y) : cF_X5_putForeign_9 a x2 x3 x4 M = y := q_lpr (step := fun t => cB_X5_putForeign_9 a t.1 t.2.1 t.2.2.1 t.2.2.2) h
set_option maxRecDepth 100000 in
theorem cE_X5_putForeign_9 (a : Nat) (x2 : Int32) (x3 : Option Nat) (x4 : Int32) (M : z_Mem) : cB_X5_putForeign_9 a x2 x3 x4 M = (if (x2 ≤ x4) then (.inr (x4, M)) else (q_st (Option.getD x3 0) (fun (a3 : Nat) => (q_st2 (cF_X3_hasRoom a3 M) (fun (x_2 : Int32) (M_2 : z_Mem) => (if (x_2 = 0) then (.inr (x4, M_2)) else (q_st (cF_X3_append a3 (z_fr M_2 644 a) M_2) (fun (M_6 : z_Mem) => (q_st (x4 + 1) (fun (x_7 : Int32) => (.inl (x2, x3, x_7, M_6)))))))))))) := rfl
set_option maxRecDepth 100000 in
set_option maxHeartbeats 4000000 in
theorem cS_X5_putForeign_9 {Q Post : Int32 → z_Mem → Prop} {a : Nat} : ∀ (m : Nat) {x2 : Int32} {x3 : Option Nat} {x4 : Int32} {M : z_Mem} (H : P_X5_putForeign_9 a Q m x2 x3 x4 M) (K : ∀ x M1, Q x M1 → cF_X5_putForeign_9 a x2 x3 x4 M = (x, M1) → Post x M1), P_X5_putForeign_9 a Post m x2 x3 x4 M := by
  intro m
  induction m with
  | zero => intros; rename_i H _; exact False.elim H
  | succ m ih =>
    intro x2 x3 x4 M H K
    have hF := cE_X5_putForeign_9 a x2 x3 x4 M
    unfold P_X5_putForeign_9 at H ⊢
    refine And.intro (fun c1 => ?_) (fun c1 => ?_)
    · replace H := H.1 c1
      replace hF := hF.trans (if_pos c1)
      exact K _ _ H (cUr_X5_putForeign_9 hF)
    · replace H := H.2 c1
      replace hF := hF.trans (if_neg c1)
      obtain ⟨a3, e_a3, H⟩ := H
      refine z_nn_of e_a3 ?_
      replace hF := hF.trans (q_ste (q_gd e_a3))
      refine cS_X3_hasRoom H (fun x_2 M_2 H u => ?_)
      replace hF := hF.trans (q_ste2 u)
      refine And.intro (fun c2 => ?_) (fun c2 => ?_)
      · replace H := H.1 c2
        replace hF := hF.trans (if_pos c2)
        exact K _ _ H (cUr_X5_putForeign_9 hF)
      · replace H := H.2 c2
        replace hF := hF.trans (if_neg c2)
        refine cS_X3_append H (fun M_6 H u => ?_)
        replace hF := hF.trans (q_ste u.symm)
        intro x_7 e_x_7
        replace H := H x_7 e_x_7
        replace hF := hF.trans (q_ste e_x_7)
        replace hF := cUl_X5_putForeign_9 hF
        exact ih H (fun x M1 q u => K x M1 q (hF.trans u))
set_option maxRecDepth 100000 in
noncomputable def cF_X5_putForeign (a : Nat) (p1 : Int32) (p2 : Int32) (M : z_Mem) : (Int32 × z_Mem) := (q_st2 (cF_X5_laneOf a p1 M) (fun (x_8 : Option Nat) (M_8 : z_Mem) => (cF_X5_putForeign_9 a p2 x_8 0 M_8)))
set_option maxRecDepth 100000 in
theorem cE_X5_putForeign (a : Nat) (p1 : Int32) (p2 : Int32) (M : z_Mem) : cF_X5_putForeign a p1 p2 M = (q_st2 (cF_X5_laneOf a p1 M) (fun (x_8 : Option Nat) (M_8 : z_Mem) => (cF_X5_putForeign_9 a p2 x_8 0 M_8))) := rfl
set_option maxRecDepth 100000 in
set_option maxHeartbeats 4000000 in
theorem cS_X5_putForeign {Q Post : Int32 → z_Mem → Prop} {a : Nat} {p1 : Int32} {p2 : Int32} {M : z_Mem} (H : P_X5_putForeign a p1 p2 M Q) (K : ∀ x M1, Q x M1 → cF_X5_putForeign a p1 p2 M = (x, M1) → Post x M1) : P_X5_putForeign a p1 p2 M Post := by
  have hF := cE_X5_putForeign a p1 p2 M
  unfold P_X5_putForeign at H ⊢
  refine cS_X5_laneOf H (fun x_8 M_8 H u => ?_)
  replace hF := hF.trans (q_ste2 u)
  obtain ⟨m, H⟩ := H
  refine ⟨m, ?_⟩
  exact cS_X5_putForeign_9 m H (fun x M1 q u => K x M1 q (hF.trans u))
set_option maxRecDepth 100000 in
noncomputable def cF_X5_letLeaveLane_57 (a : Nat) (x1 : Option Nat) (x2 : Int32) (M : z_Mem) : ((Option Nat × Int32 × z_Mem) ⊕ z_Mem) := (q_st (x2 + 1) (fun (x_1 : Int32) => (.inl (x1, x_1, M))))
set_option maxRecDepth 100000 in
theorem cE_X5_letLeaveLane_57 (a : Nat) (x1 : Option Nat) (x2 : Int32) (M : z_Mem) : cF_X5_letLeaveLane_57 a x1 x2 M = (q_st (x2 + 1) (fun (x_1 : Int32) => (.inl (x1, x_1, M)))) := rfl
set_option maxRecDepth 100000 in
set_option maxHeartbeats 4000000 in
theorem cS_X5_letLeaveLane_57 {Q Post : z_Mem → Prop} {a : Nat} {x1 : Option Nat} {x2 : Int32} {QJ2 PJ2 : Option Nat → Int32 → z_Mem → Prop} {M : z_Mem} (H : P_X5_letLeaveLane_57 a Q QJ2 x1 x2 M) (K : ∀ M1, Q M1 → cF_X5_letLeaveLane_57 a x1 x2 M = (.inr M1) → Post M1) (KJ2 : ∀ v0 v1 M1, QJ2 v0 v1 M1 → cF_X5_letLeaveLane_57 a x1 x2 M = (.inl (v0, v1, M1)) → PJ2 v0 v1 M1) : P_X5_letLeaveLane_57 a Post PJ2 x1 x2 M := by
  have hF := cE_X5_letLeaveLane_57 a x1 x2 M
  unfold P_X5_letLeaveLane_57 at H ⊢
  intro x_1 e_x_1
  replace H := H x_1 e_x_1
  replace hF := hF.trans (q_ste e_x_1)
  exact KJ2 _ _ _ H hF
set_option maxRecDepth 100000 in
noncomputable def cB_X5_letLeaveLane_2 (a : Nat) (x1 : Option Nat) (x2 : Int32) (M : z_Mem) : (Option Nat × Int32 × z_Mem) ⊕ z_Mem := (q_st (Option.getD x1 0) (fun (a2 : Nat) => (if ((z_fi M 385 a2) ≤ x2) then (.inr M) else (if ((z_fi M 395 a2) ≤ 0) then (.inr M) else (q_st2 (cF_X3_removeFirst a2 M) (fun (x_7 : Option Nat) (M_7 : z_Mem) => (q_op x_7 (cF_X5_letLeaveLane_57 a x1 x2 M_7) (fun a8 => (if ((z_fi M_7 512 a8) = 9) then (cF_X5_letLeaveLane_57 a x1 x2 M_7) else (q_st2 (cF_X3_takeLateness a2 M_7) (fun (x_14 : Int32) (M_14 : z_Mem) => (q_st (Option.getD (z_fr M_7 642 a) 0) (fun (a16 : Nat) => (q_st (cF_X10_append a16 x_7 (((z_fi M_7 645 a) + (z_fi M_7 384 a2)) + x_14) M_14) (fun (M_15 : z_Mem) => (cF_X5_letLeaveLane_57 a x1 x2 M_15))))))))))))))))
set_option maxRecDepth 100000 in
noncomputable def cF_X5_letLeaveLane_2 (a : Nat) (x1 : Option Nat) (x2 : Int32) (M : z_Mem) : z_Mem := q_lp (X := (Option Nat × Int32 × z_Mem)) (Y := z_Mem) M (fun t => cB_X5_letLeaveLane_2 a t.1 t.2.1 t.2.2) (x1, x2, M)
set_option maxRecDepth 100000 in
theorem cUl_X5_letLeaveLane_2 {a : Nat} {x1 : Option Nat} {x2 : Int32} {M : z_Mem} {y_x1 : Option Nat} {y_x2 : Int32} {M1 : z_Mem} (h : cB_X5_letLeaveLane_2 a x1 x2 M = .inl (y_x1, y_x2, M1)) : cF_X5_letLeaveLane_2 a x1 x2 M = cF_X5_letLeaveLane_2 a y_x1 y_x2 M1 := q_lpl (step := fun t => cB_X5_letLeaveLane_2 a t.1 t.2.1 t.2.2) h
set_option maxRecDepth 100000 in
theorem cUr_X5_letLeaveLane_2 {a : Nat} {x1 : Option Nat} {x2 : Int32} {M : z_Mem} {y : z_Mem} (h : cB_X5_letLeaveLane_2 a x1 x2 M = .inr y) : cF_X5_letLeaveLane_2 a x1 x2 M = y := q_lpr (step := fun t => cB_X5_letLeaveLane_2 a t.1 t.2.1 t.2.2) h
set_option maxRecDepth 100000 in
theorem cE_X5_letLeaveLane_2 (a : Nat) (x1 : Option Nat) (x2 : Int32) (M : z_Mem) : cB_X5_letLeaveLane_2 a x1 x2 M = (q_st (Option.getD x1 0) (fun (a2 : Nat) => (if ((z_fi M 385 a2) ≤ x2) then (.inr M) else (if ((z_fi M 395 a2) ≤ 0) then (.inr M) else (q_st2 (cF_X3_removeFirst a2 M) (fun (x_7 : Option Nat) (M_7 : z_Mem) => (q_op x_7 (cF_X5_letLeaveLane_57 a x1 x2 M_7) (fun a8 => (if ((z_fi M_7 512 a8) = 9) then (cF_X5_letLeaveLane_57 a x1 x2 M_7) else (q_st2 (cF_X3_takeLateness a2 M_7) (fun (x_14 : Int32) (M_14 : z_Mem) => (q_st (Option.getD (z_fr M_7 642 a) 0) (fun (a16 : Nat) => (q_st (cF_X10_append a16 x_7 (((z_fi M_7 645 a) + (z_fi M_7 384 a2)) + x_14) M_14) (fun (M_15 : z_Mem) => (cF_X5_letLeaveLane_57 a x1 x2 M_15)))))))))))))))) := rfl
set_option maxRecDepth 100000 in
set_option maxHeartbeats 4000000 in
theorem cS_X5_letLeaveLane_2 {Q Post : z_Mem → Prop} {a : Nat} : ∀ (m : Nat) {x1 : Option Nat} {x2 : Int32} {M : z_Mem} (H : P_X5_letLeaveLane_2 a Q m x1 x2 M) (K : ∀ M1, Q M1 → cF_X5_letLeaveLane_2 a x1 x2 M = M1 → Post M1), P_X5_letLeaveLane_2 a Post m x1 x2 M := by
  intro m
  induction m with
  | zero => intros; rename_i H _; exact False.elim H
  | succ m ih =>
    intro x1 x2 M H K
    have hF := cE_X5_letLeaveLane_2 a x1 x2 M
    unfold P_X5_letLeaveLane_2 at H ⊢
    obtain ⟨a2, e_a2, H⟩ := H
    refine z_nn_of e_a2 ?_
    replace hF := hF.trans (q_ste (q_gd e_a2))
    refine And.intro (fun c1 => ?_) (fun c1 => ?_)
    · replace H := H.1 c1
      replace hF := hF.trans (if_pos c1)
      exact K _ H (cUr_X5_letLeaveLane_2 hF)
    · replace H := H.2 c1
      replace hF := hF.trans (if_neg c1)
      refine And.intro (fun c2 => ?_) (fun c2 => ?_)
      · replace H := H.1 c2
        replace hF := hF.trans (if_pos c2)
        exact K _ H (cUr_X5_letLeaveLane_2 hF)
      · replace H := H.2 c2
        replace hF := hF.trans (if_neg c2)
        refine cS_X3_removeFirst H (fun x_7 M_7 H u => ?_)
        replace hF := hF.trans (q_ste2 u)
        refine And.intro (fun c3 => ?_) (fun a8 c3 => ?_)
        · replace H := H.1 c3
          replace hF := hF.trans (q_opn c3)
          exact cS_X5_letLeaveLane_57 H (fun M1 q u => K M1 q (cUr_X5_letLeaveLane_2 (hF.trans u))) (fun v0 v1 M1 q u => ih q (fun M1 q u2 => K M1 q ((cUl_X5_letLeaveLane_2 (hF.trans u)).trans u2))) 
        · replace H := H.2 a8 c3
          replace hF := hF.trans (q_ops c3)
          refine And.intro (fun c4 => ?_) (fun c4 => ?_)
          · replace H := H.1 c4
            replace hF := hF.trans (if_pos c4)
            exact cS_X5_letLeaveLane_57 H (fun M1 q u => K M1 q (cUr_X5_letLeaveLane_2 (hF.trans u))) (fun v0 v1 M1 q u => ih q (fun M1 q u2 => K M1 q ((cUl_X5_letLeaveLane_2 (hF.trans u)).trans u2))) 
          · replace H := H.2 c4
            replace hF := hF.trans (if_neg c4)
            refine cS_X3_takeLateness H (fun x_14 M_14 H u => ?_)
            replace hF := hF.trans (q_ste2 u)
            obtain ⟨a16, e_a16, H⟩ := H
            refine z_nn_of e_a16 ?_
            replace hF := hF.trans (q_ste (q_gd e_a16))
            refine cS_X10_append H (fun M_15 H u => ?_)
            replace hF := hF.trans (q_ste u.symm)
            exact cS_X5_letLeaveLane_57 H (fun M1 q u => K M1 q (cUr_X5_letLeaveLane_2 (hF.trans u))) (fun v0 v1 M1 q u => ih q (fun M1 q u2 => K M1 q ((cUl_X5_letLeaveLane_2 (hF.trans u)).trans u2))) 
set_option maxRecDepth 100000 in
noncomputable def cF_X5_letLeaveLane (a : Nat) (p1 : Option Nat) (M : z_Mem) : z_Mem := (cF_X5_letLeaveLane_2 a p1 0 M)
set_option maxRecDepth 100000 in
theorem cE_X5_letLeaveLane (a : Nat) (p1 : Option Nat) (M : z_Mem) : cF_X5_letLeaveLane a p1 M = (cF_X5_letLeaveLane_2 a p1 0 M) := rfl
set_option maxRecDepth 100000 in
set_option maxHeartbeats 4000000 in
theorem cS_X5_letLeaveLane {Q Post : z_Mem → Prop} {a : Nat} {p1 : Option Nat} {M : z_Mem} (H : P_X5_letLeaveLane a p1 M Q) (K : ∀ M1, Q M1 → cF_X5_letLeaveLane a p1 M = M1 → Post M1) : P_X5_letLeaveLane a p1 M Post := by
  have hF := cE_X5_letLeaveLane a p1 M
  unfold P_X5_letLeaveLane at H ⊢
  obtain ⟨m, H⟩ := H
  refine ⟨m, ?_⟩
  exact cS_X5_letLeaveLane_2 m H (fun M1 q u => K M1 q (hF.trans u))
set_option maxRecDepth 100000 in
noncomputable def cF_X5_letLeave (a : Nat) (M : z_Mem) : z_Mem := (q_st (cF_X5_letLeaveLane a (z_fr M 640 a) M) (fun (M_2 : z_Mem) => (q_st (cF_X5_letLeaveLane a (z_fr M_2 641 a) M_2) (fun (M_4 : z_Mem) => M_4))))
set_option maxRecDepth 100000 in
theorem cE_X5_letLeave (a : Nat) (M : z_Mem) : cF_X5_letLeave a M = (q_st (cF_X5_letLeaveLane a (z_fr M 640 a) M) (fun (M_2 : z_Mem) => (q_st (cF_X5_letLeaveLane a (z_fr M_2 641 a) M_2) (fun (M_4 : z_Mem) => M_4)))) := rfl
set_option maxRecDepth 100000 in
set_option maxHeartbeats 4000000 in
theorem cS_X5_letLeave {Q Post : z_Mem → Prop} {a : Nat} {M : z_Mem} (H : P_X5_letLeave a M Q) (K : ∀ M1, Q M1 → cF_X5_letLeave a M = M1 → Post M1) : P_X5_letLeave a M Post := by
  have hF := cE_X5_letLeave a M
  unfold P_X5_letLeave at H ⊢
  refine cS_X5_letLeaveLane H (fun M_2 H u => ?_)
  replace hF := hF.trans (q_ste u.symm)
  refine cS_X5_letLeaveLane H (fun M_4 H u => ?_)
  replace hF := hF.trans (q_ste u.symm)
  exact K _ H hF
set_option maxRecDepth 100000 in
noncomputable def cB_X8_nextTaken_2 (a : Nat) (x2 : Int32) (x3 : Int32) (M : z_Mem) : (Int32 × Int32 × z_Mem) ⊕ (Int32 × z_Mem) := (if (x3 < 0) then (.inr (x3, M)) else (if (400 ≤ x3) then (.inr (x3, M)) else (q_st (Option.getD (z_fr M 1033 a) 0) (fun (a4 : Nat) => (if ((z_ai M a4 (x3 : Int32).toNatClampNeg) = x2) then (.inr (x3, M)) else (q_st (x3 + (-1)) (fun (x_7 : Int32) => (.inl (x2, x_7, M)))))))))
set_option maxRecDepth 100000 in
noncomputable def cF_X8_nextTaken_2 (a : Nat) (x2 : Int32) (x3 : Int32) (M : z_Mem) : (Int32 × z_Mem) := q_lp (X := (Int32 × Int32 × z_Mem)) (Y := (Int32 × z_Mem)) ((0 : Int32), M) (fun t => cB_X8_nextTaken_2 a t.1 t.2.1 t.2.2) (x2, x3, M)
set_option maxRecDepth 100000 in
theorem cUl_X8_nextTaken_2 {a : Nat} {x2 : Int32} {x3 : Int32} {M : z_Mem} {y_x2 : Int32} {y_x3 : Int32} {M1 : z_Mem} (h : cB_X8_nextTaken_2 a x2 x3 M = .inl (y_x2, y_x3, M1)) : cF_X8_nextTaken_2 a x2 x3 M = cF_X8_nextTaken_2 a y_x2 y_x3 M1 := q_lpl (step := fun t => cB_X8_nextTaken_2 a t.1 t.2.1 t.2.2) h
set_option maxRecDepth 100000 in
theorem cUr_X8_nextTaken_2 {a : Nat} {x2 : Int32} {x3 : Int32} {M : z_Mem} {y : (Int32 × z_Mem)} (h : cB_X8_nextTaken_2 a x2 x3 M = .inr y) : cF_X8_nextTaken_2 a x2 x3 M = y := q_lpr (step := fun t => cB_X8_nextTaken_2 a t.1 t.2.1 t.2.2) h
set_option maxRecDepth 100000 in
theorem cE_X8_nextTaken_2 (a : Nat) (x2 : Int32) (x3 : Int32) (M : z_Mem) : cB_X8_nextTaken_2 a x2 x3 M = (if (x3 < 0) then (.inr (x3, M)) else (if (400 ≤ x3) then (.inr (x3, M)) else (q_st (Option.getD (z_fr M 1033 a) 0) (fun (a4 : Nat) => (if ((z_ai M a4 (x3 : Int32).toNatClampNeg) = x2) then (.inr (x3, M)) else (q_st (x3 + (-1)) (fun (x_7 : Int32) => (.inl (x2, x_7, M))))))))) := rfl
set_option maxRecDepth 100000 in
set_option maxHeartbeats 4000000 in
theorem cS_X8_nextTaken_2 {Q Post : Int32 → z_Mem → Prop} {a : Nat} : ∀ (m : Nat) {x2 : Int32} {x3 : Int32} {M : z_Mem} (H : P_X8_nextTaken_2 a Q m x2 x3 M) (K : ∀ x M1, Q x M1 → cF_X8_nextTaken_2 a x2 x3 M = (x, M1) → Post x M1), P_X8_nextTaken_2 a Post m x2 x3 M := by
  intro m
  induction m with
  | zero => intros; rename_i H _; exact False.elim H
  | succ m ih =>
    intro x2 x3 M H K
    have hF := cE_X8_nextTaken_2 a x2 x3 M
    unfold P_X8_nextTaken_2 at H ⊢
    refine And.intro (fun c1 => ?_) (fun c1 => ?_)
    · replace H := H.1 c1
      replace hF := hF.trans (if_pos c1)
      exact K _ _ H (cUr_X8_nextTaken_2 hF)
    · replace H := H.2 c1
      replace hF := hF.trans (if_neg c1)
      refine And.intro (fun c2 => ?_) (fun c2 => ?_)
      · replace H := H.1 c2
        replace hF := hF.trans (if_pos c2)
        exact K _ _ H (cUr_X8_nextTaken_2 hF)
      · replace H := H.2 c2
        replace hF := hF.trans (if_neg c2)
        obtain ⟨a4, e_a4, H⟩ := H
        refine z_nn_of e_a4 ?_
        replace hF := hF.trans (q_ste (q_gd e_a4))
        refine And.intro H.1 ?_
        replace H := H.2
        refine And.intro (fun c3 => ?_) (fun c3 => ?_)
        · replace H := H.1 c3
          replace hF := hF.trans (if_pos c3)
          exact K _ _ H (cUr_X8_nextTaken_2 hF)
        · replace H := H.2 c3
          replace hF := hF.trans (if_neg c3)
          intro x_7 e_x_7
          replace H := H x_7 e_x_7
          replace hF := hF.trans (q_ste e_x_7)
          replace hF := cUl_X8_nextTaken_2 hF
          exact ih H (fun x M1 q u => K x M1 q (hF.trans u))
set_option maxRecDepth 100000 in
noncomputable def cF_X8_nextTaken (a : Nat) (p1 : Int32) (p2 : Int32) (M : z_Mem) : (Int32 × z_Mem) := (cF_X8_nextTaken_2 a p2 p1 M)
set_option maxRecDepth 100000 in
theorem cE_X8_nextTaken (a : Nat) (p1 : Int32) (p2 : Int32) (M : z_Mem) : cF_X8_nextTaken a p1 p2 M = (cF_X8_nextTaken_2 a p2 p1 M) := rfl
set_option maxRecDepth 100000 in
set_option maxHeartbeats 4000000 in
theorem cS_X8_nextTaken {Q Post : Int32 → z_Mem → Prop} {a : Nat} {p1 : Int32} {p2 : Int32} {M : z_Mem} (H : P_X8_nextTaken a p1 p2 M Q) (K : ∀ x M1, Q x M1 → cF_X8_nextTaken a p1 p2 M = (x, M1) → Post x M1) : P_X8_nextTaken a p1 p2 M Post := by
  have hF := cE_X8_nextTaken a p1 p2 M
  unfold P_X8_nextTaken at H ⊢
  obtain ⟨m, H⟩ := H
  refine ⟨m, ?_⟩
  exact cS_X8_nextTaken_2 m H (fun x M1 q u => K x M1 q (hF.trans u))
set_option maxRecDepth 100000 in
noncomputable def cB_X8_makeAck_73 (a : Nat) (x1 : Option Nat) (x3 : Int32) (x4 : Int32) (M : z_Mem) : (Option Nat × Int32 × Int32 × z_Mem) ⊕ (Option Nat × z_Mem) := (if (4 ≤ x4) then (q_st (Option.getD x1 0) (fun (a2 : Nat) => (q_st (z_sfi M 5 a2 (100 + x3)) (fun (M_3 : z_Mem) => (.inr (x1, M_3)))))) else (q_st (Option.getD x1 0) (fun (a4 : Nat) => (q_st (Option.getD (z_fr M 1025 a) 0) (fun (a7 : Nat) => (q_st (Option.getD (z_ar M a7 (x4 : Int32).toNatClampNeg) 0) (fun (a9 : Nat) => (q_st (Option.getD (z_fr M 2 a4) 0) (fun (a11 : Nat) => (q_st (z_sai M a11 (x4 : Int32).toNatClampNeg (40 + (z_fi M 1158 a9))) (fun (M_13 : z_Mem) => (q_st (Option.getD (z_fr M_13 1025 a) 0) (fun (a15 : Nat) => (q_st (Option.getD (z_ar M_13 a15 (x4 : Int32).toNatClampNeg) 0) (fun (a17 : Nat) => (q_st (x3 + (z_fi M_13 1158 a17)) (fun (x_19 : Int32) => (q_st (x4 + 1) (fun (x_20 : Int32) => (.inl (x1, x_19, x_20, M_13)))))))))))))))))))))
set_option maxRecDepth 100000 in
noncomputable def cF_X8_makeAck_73 (a : Nat) (x1 : Option Nat) (x3 : Int32) (x4 : Int32) (M : z_Mem) : (Option Nat × z_Mem) := q_lp (X := (Option Nat × Int32 × Int32 × z_Mem)) (Y := (Option Nat × z_Mem)) ((none : Option Nat), M) (fun t => cB_X8_makeAck_73 a t.1 t.2.1 t.2.2.1 t.2.2.2) (x1, x3, x4, M)
set_option maxRecDepth 100000 in
theorem cUl_X8_makeAck_73 {a : Nat} {x1 : Option Nat} {x3 : Int32} {x4 : Int32} {M : z_Mem} {y_x1 : Option Nat} {y_x3 : Int32} {y_x4 : Int32} {M1 : z_Mem} (h : cB_X8_makeAck_73 a x1 x3 x4 M = .inl (y_x1, y_x3, y_x4, M1)) : cF_X8_makeAck_73 a x1 x3 x4 M = cF_X8_makeAck_73 a y_x1 y_x3 y_x4 M1 := q_lpl (step := fun t => cB_X8_makeAck_73 a t.1 t.2.1 t.2.2.1 t.2.2.2) h
set_option maxRecDepth 100000 in
theorem cUr_X8_makeAck_73 {a : Nat} {x1 : Option Nat} {x3 : Int32} {x4 : Int32} {M : z_Mem} {y : (Option Nat × z_Mem)} (h : cB_X8_makeAck_73 a x1 x3 x4 M = .inr y) : cF_X8_makeAck_73 a x1 x3 x4 M = y := q_lpr (step := fun t => cB_X8_makeAck_73 a t.1 t.2.1 t.2.2.1 t.2.2.2) h
set_option maxRecDepth 100000 in
theorem cE_X8_makeAck_73 (a : Nat) (x1 : Option Nat) (x3 : Int32) (x4 : Int32) (M : z_Mem) : cB_X8_makeAck_73 a x1 x3 x4 M = (if (4 ≤ x4) then (q_st (Option.getD x1 0) (fun (a2 : Nat) => (q_st (z_sfi M 5 a2 (100 + x3)) (fun (M_3 : z_Mem) => (.inr (x1, M_3)))))) else (q_st (Option.getD x1 0) (fun (a4 : Nat) => (q_st (Option.getD (z_fr M 1025 a) 0) (fun (a7 : Nat) => (q_st (Option.getD (z_ar M a7 (x4 : Int32).toNatClampNeg) 0) (fun (a9 : Nat) => (q_st (Option.getD (z_fr M 2 a4) 0) (fun (a11 : Nat) => (q_st (z_sai M a11 (x4 : Int32).toNatClampNeg (40 + (z_fi M 1158 a9))) (fun (M_13 : z_Mem) => (q_st (Option.getD (z_fr M_13 1025 a) 0) (fun (a15 : Nat) => (q_st (Option.getD (z_ar M_13 a15 (x4 : Int32).toNatClampNeg) 0) (fun (a17 : Nat) => (q_st (x3 + (z_fi M_13 1158 a17)) (fun (x_19 : Int32) => (q_st (x4 + 1) (fun (x_20 : Int32) => (.inl (x1, x_19, x_20, M_13))))))))))))))))))))) := rfl
set_option maxRecDepth 100000 in
set_option maxHeartbeats 4000000 in
theorem cS_X8_makeAck_73 {Q Post : Option Nat → z_Mem → Prop} {a : Nat} : ∀ (m : Nat) {x1 : Option Nat} {x3 : Int32} {x4 : Int32} {M : z_Mem} (H : P_X8_makeAck_73 a Q m x1 x3 x4 M) (K : ∀ x M1, Q x M1 → cF_X8_makeAck_73 a x1 x3 x4 M = (x, M1) → Post x M1), P_X8_makeAck_73 a Post m x1 x3 x4 M := by
  intro m
  induction m with
  | zero => intros; rename_i H _; exact False.elim H
  | succ m ih =>
    intro x1 x3 x4 M H K
    have hF := cE_X8_makeAck_73 a x1 x3 x4 M
    unfold P_X8_makeAck_73 at H ⊢
    refine And.intro (fun c1 => ?_) (fun c1 => ?_)
    · replace H := H.1 c1
      replace hF := hF.trans (if_pos c1)
      obtain ⟨a2, e_a2, H⟩ := H
      refine z_nn_of e_a2 ?_
      replace hF := hF.trans (q_ste (q_gd e_a2))
      intro M_3 e_M_3
      replace H := H M_3 e_M_3
      replace hF := hF.trans (q_ste e_M_3)
      exact K _ _ H (cUr_X8_makeAck_73 hF)
    · replace H := H.2 c1
      replace hF := hF.trans (if_neg c1)
      obtain ⟨a4, e_a4, H⟩ := H
      refine z_nn_of e_a4 ?_
      replace hF := hF.trans (q_ste (q_gd e_a4))
      obtain ⟨a7, e_a7, H⟩ := H
      refine z_nn_of e_a7 ?_
      replace hF := hF.trans (q_ste (q_gd e_a7))
      refine And.intro H.1 ?_
      replace H := H.2
      obtain ⟨a9, e_a9, H⟩ := H
      refine z_nn_of e_a9 ?_
      replace hF := hF.trans (q_ste (q_gd e_a9))
      obtain ⟨a11, e_a11, H⟩ := H
      refine z_nn_of e_a11 ?_
      replace hF := hF.trans (q_ste (q_gd e_a11))
      refine And.intro H.1 ?_
      replace H := H.2
      intro M_13 e_M_13
      replace H := H M_13 e_M_13
      replace hF := hF.trans (q_ste e_M_13)
      obtain ⟨a15, e_a15, H⟩ := H
      refine z_nn_of e_a15 ?_
      replace hF := hF.trans (q_ste (q_gd e_a15))
      refine And.intro H.1 ?_
      replace H := H.2
      obtain ⟨a17, e_a17, H⟩ := H
      refine z_nn_of e_a17 ?_
      replace hF := hF.trans (q_ste (q_gd e_a17))
      intro x_19 e_x_19
      replace H := H x_19 e_x_19
      replace hF := hF.trans (q_ste e_x_19)
      intro x_20 e_x_20
      replace H := H x_20 e_x_20
      replace hF := hF.trans (q_ste e_x_20)
      replace hF := cUl_X8_makeAck_73 hF
      exact ih H (fun x M1 q u => K x M1 q (hF.trans u))
set_option maxRecDepth 100000 in
noncomputable def cF_X8_makeAck_60 (a : Nat) (x1 : Option Nat) (M : z_Mem) : (Option Nat × z_Mem) := (q_st (Option.getD x1 0) (fun (a22 : Nat) => (q_st (z_sfi M 4 a22 (z_fi M 1035 a)) (fun (M_23 : z_Mem) => (cF_X8_makeAck_73 a x1 0 0 M_23)))))
set_option maxRecDepth 100000 in
theorem cE_X8_makeAck_60 (a : Nat) (x1 : Option Nat) (M : z_Mem) : cF_X8_makeAck_60 a x1 M = (q_st (Option.getD x1 0) (fun (a22 : Nat) => (q_st (z_sfi M 4 a22 (z_fi M 1035 a)) (fun (M_23 : z_Mem) => (cF_X8_makeAck_73 a x1 0 0 M_23))))) := rfl
set_option maxRecDepth 100000 in
set_option maxHeartbeats 4000000 in
theorem cS_X8_makeAck_60 {Q Post : Option Nat → z_Mem → Prop} {a : Nat} {x1 : Option Nat} {M : z_Mem} (H : P_X8_makeAck_60 a Q x1 M) (K : ∀ x M1, Q x M1 → cF_X8_makeAck_60 a x1 M = (x, M1) → Post x M1) : P_X8_makeAck_60 a Post x1 M := by
  have hF := cE_X8_makeAck_60 a x1 M
  unfold P_X8_makeAck_60 at H ⊢
  obtain ⟨a22, e_a22, H⟩ := H
  refine z_nn_of e_a22 ?_
  replace hF := hF.trans (q_ste (q_gd e_a22))
  intro M_23 e_M_23
  replace H := H M_23 e_M_23
  replace hF := hF.trans (q_ste e_M_23)
  obtain ⟨m, H⟩ := H
  refine ⟨m, ?_⟩
  exact cS_X8_makeAck_73 m H (fun x M1 q u => K x M1 q (hF.trans u))
set_option maxRecDepth 100000 in
noncomputable def cB_X8_makeAck_20 (a : Nat) (x1 : Option Nat) (x2 : Int32) (x3 : Int32) (M : z_Mem) : (Option Nat × Int32 × Int32 × z_Mem) ⊕ (Option Nat × z_Mem) := (if (4 ≤ x3) then (.inr (cF_X8_makeAck_60 a x1 M)) else (if (x2 < 0) then (.inr (cF_X8_makeAck_60 a x1 M)) else (q_st2 (cF_X8_nextTaken a x2 0 M) (fun (x_27 : Int32) (M_27 : z_Mem) => (q_st (Option.getD x1 0) (fun (a29 : Nat) => (q_st (cF_X0_addRange a29 (x_27 + 1) x2 M_27) (fun (M_28 : z_Mem) => (q_st2 (cF_X8_nextTaken a x_27 1 M_28) (fun (x_30 : Int32) (M_30 : z_Mem) => (q_st (x3 + 1) (fun (x_31 : Int32) => (.inl (x1, x_30, x_31, M_30))))))))))))))
set_option maxRecDepth 100000 in
noncomputable def cF_X8_makeAck_20 (a : Nat) (x1 : Option Nat) (x2 : Int32) (x3 : Int32) (M : z_Mem) : (Option Nat × z_Mem) := q_lp (X := (Option Nat × Int32 × Int32 × z_Mem)) (Y := (Option Nat × z_Mem)) ((none : Option Nat), M) (fun t => cB_X8_makeAck_20 a t.1 t.2.1 t.2.2.1 t.2.2.2) (x1, x2, x3, M)
set_option maxRecDepth 100000 in
theorem cUl_X8_makeAck_20 {a : Nat} {x1 : Option Nat} {x2 : Int32} {x3 : Int32} {M : z_Mem} {y_x1 : Option Nat} {y_x2 : Int32} {y_x3 : Int32} {M1 : z_Mem} (h : cB_X8_makeAck_20 a x1 x2 x3 M = .inl (y_x1, y_x2, y_x3, M1)) : cF_X8_makeAck_20 a x1 x2 x3 M = cF_X8_makeAck_20 a y_x1 y_x2 y_x3 M1 := q_lpl (step := fun t => cB_X8_makeAck_20 a t.1 t.2.1 t.2.2.1 t.2.2.2) h
set_option maxRecDepth 100000 in
theorem cUr_X8_makeAck_20 {a : Nat} {x1 : Option Nat} {x2 : Int32} {x3 : Int32} {M : z_Mem} {y : (Option Nat × z_Mem)} (h : cB_X8_makeAck_20 a x1 x2 x3 M = .inr y) : cF_X8_makeAck_20 a x1 x2 x3 M = y := q_lpr (step := fun t => cB_X8_makeAck_20 a t.1 t.2.1 t.2.2.1 t.2.2.2) h
set_option maxRecDepth 100000 in
theorem cE_X8_makeAck_20 (a : Nat) (x1 : Option Nat) (x2 : Int32) (x3 : Int32) (M : z_Mem) : cB_X8_makeAck_20 a x1 x2 x3 M = (if (4 ≤ x3) then (.inr (cF_X8_makeAck_60 a x1 M)) else (if (x2 < 0) then (.inr (cF_X8_makeAck_60 a x1 M)) else (q_st2 (cF_X8_nextTaken a x2 0 M) (fun (x_27 : Int32) (M_27 : z_Mem) => (q_st (Option.getD x1 0) (fun (a29 : Nat) => (q_st (cF_X0_addRange a29 (x_27 + 1) x2 M_27) (fun (M_28 : z_Mem) => (q_st2 (cF_X8_nextTaken a x_27 1 M_28) (fun (x_30 : Int32) (M_30 : z_Mem) => (q_st (x3 + 1) (fun (x_31 : Int32) => (.inl (x1, x_30, x_31, M_30)))))))))))))) := rfl
set_option maxRecDepth 100000 in
set_option maxHeartbeats 4000000 in
theorem cS_X8_makeAck_20 {Q Post : Option Nat → z_Mem → Prop} {a : Nat} : ∀ (m : Nat) {x1 : Option Nat} {x2 : Int32} {x3 : Int32} {M : z_Mem} (H : P_X8_makeAck_20 a Q m x1 x2 x3 M) (K : ∀ x M1, Q x M1 → cF_X8_makeAck_20 a x1 x2 x3 M = (x, M1) → Post x M1), P_X8_makeAck_20 a Post m x1 x2 x3 M := by
  intro m
  induction m with
  | zero => intros; rename_i H _; exact False.elim H
  | succ m ih =>
    intro x1 x2 x3 M H K
    have hF := cE_X8_makeAck_20 a x1 x2 x3 M
    unfold P_X8_makeAck_20 at H ⊢
    refine And.intro (fun c1 => ?_) (fun c1 => ?_)
    · replace H := H.1 c1
      replace hF := hF.trans (if_pos c1)
      exact cS_X8_makeAck_60 H (fun x M1 q u => K x M1 q (cUr_X8_makeAck_20 (hF.trans (congrArg Sum.inr u))))
    · replace H := H.2 c1
      replace hF := hF.trans (if_neg c1)
      refine And.intro (fun c2 => ?_) (fun c2 => ?_)
      · replace H := H.1 c2
        replace hF := hF.trans (if_pos c2)
        exact cS_X8_makeAck_60 H (fun x M1 q u => K x M1 q (cUr_X8_makeAck_20 (hF.trans (congrArg Sum.inr u))))
      · replace H := H.2 c2
        replace hF := hF.trans (if_neg c2)
        refine cS_X8_nextTaken H (fun x_27 M_27 H u => ?_)
        replace hF := hF.trans (q_ste2 u)
        obtain ⟨a29, e_a29, H⟩ := H
        refine z_nn_of e_a29 ?_
        replace hF := hF.trans (q_ste (q_gd e_a29))
        refine cS_X0_addRange H (fun M_28 H u => ?_)
        replace hF := hF.trans (q_ste u.symm)
        refine cS_X8_nextTaken H (fun x_30 M_30 H u => ?_)
        replace hF := hF.trans (q_ste2 u)
        intro x_31 e_x_31
        replace H := H x_31 e_x_31
        replace hF := hF.trans (q_ste e_x_31)
        replace hF := cUl_X8_makeAck_20 hF
        exact ih H (fun x M1 q u => K x M1 q (hF.trans u))
set_option maxRecDepth 100000 in
noncomputable def cF_X8_makeAck (a : Nat) (M : z_Mem) : (Option Nat × z_Mem) := (q_st (z_new M 1 6) (fun (M_33 : z_Mem) => (q_st (cF_X0_init (z_sz M) M_33) (fun (M_34 : z_Mem) => (q_st2 (cF_X8_nextTaken a (z_fi M_34 1034 a) 1 M_34) (fun (x_36 : Int32) (M_36 : z_Mem) => (cF_X8_makeAck_20 a (some (z_sz M)) x_36 0 M_36)))))))
set_option maxRecDepth 100000 in
theorem cE_X8_makeAck (a : Nat) (M : z_Mem) : cF_X8_makeAck a M = (q_st (z_new M 1 6) (fun (M_33 : z_Mem) => (q_st (cF_X0_init (z_sz M) M_33) (fun (M_34 : z_Mem) => (q_st2 (cF_X8_nextTaken a (z_fi M_34 1034 a) 1 M_34) (fun (x_36 : Int32) (M_36 : z_Mem) => (cF_X8_makeAck_20 a (some (z_sz M)) x_36 0 M_36))))))) := rfl
set_option maxRecDepth 100000 in
set_option maxHeartbeats 4000000 in
theorem cS_X8_makeAck {Q Post : Option Nat → z_Mem → Prop} {a : Nat} {M : z_Mem} (H : P_X8_makeAck a M Q) (K : ∀ x M1, Q x M1 → cF_X8_makeAck a M = (x, M1) → Post x M1) : P_X8_makeAck a M Post := by
  have hF := cE_X8_makeAck a M
  unfold P_X8_makeAck at H ⊢
  refine And.intro H.1 ?_
  replace H := H.2
  intro M_33 e_M_33
  replace H := H M_33 e_M_33
  replace hF := hF.trans (q_ste e_M_33)
  refine cS_X0_init H (fun M_34 H u => ?_)
  replace hF := hF.trans (q_ste u.symm)
  refine cS_X8_nextTaken H (fun x_36 M_36 H u => ?_)
  replace hF := hF.trans (q_ste2 u)
  obtain ⟨m, H⟩ := H
  refine ⟨m, ?_⟩
  exact cS_X8_makeAck_20 m H (fun x M1 q u => K x M1 q (hF.trans u))
set_option maxRecDepth 100000 in
noncomputable def cF_X8_acknowledge (a : Nat) (M : z_Mem) : z_Mem := (if ((z_fi M 1026 a) = 1) then (if ((z_fi M 1038 a) = (-1)) then M else (q_st (z_sfi M 1039 a ((z_fi M 1039 a) + 1)) (fun (M_6 : z_Mem) => (q_st (z_sfi M_6 1036 a 0) (fun (M_7 : z_Mem) => (q_st (z_sfi M_7 1037 a (-1)) (fun (M_8 : z_Mem) => (q_st (z_new M_8 5 8) (fun (M_10 : z_Mem) => (q_st (cF_X4_init (z_sz M_8) 4 M_10) (fun (M_11 : z_Mem) => (q_st2 (cF_X8_makeAck a M_11) (fun (x_12 : Option Nat) (M_12 : z_Mem) => (q_st (z_sfr M_12 516 (z_sz M_8) x_12) (fun (M_13 : z_Mem) => (q_st (Option.getD (z_fr M_13 1024 a) 0) (fun (a17 : Nat) => (q_st (cF_X5_putToClient a17 (z_fi M_13 1038 a) (some (z_sz M_8)) M_13) (fun (M_16 : z_Mem) => M_16))))))))))))))))))) else M)
set_option maxRecDepth 100000 in
theorem cE_X8_acknowledge (a : Nat) (M : z_Mem) : cF_X8_acknowledge a M = (if ((z_fi M 1026 a) = 1) then (if ((z_fi M 1038 a) = (-1)) then M else (q_st (z_sfi M 1039 a ((z_fi M 1039 a) + 1)) (fun (M_6 : z_Mem) => (q_st (z_sfi M_6 1036 a 0) (fun (M_7 : z_Mem) => (q_st (z_sfi M_7 1037 a (-1)) (fun (M_8 : z_Mem) => (q_st (z_new M_8 5 8) (fun (M_10 : z_Mem) => (q_st (cF_X4_init (z_sz M_8) 4 M_10) (fun (M_11 : z_Mem) => (q_st2 (cF_X8_makeAck a M_11) (fun (x_12 : Option Nat) (M_12 : z_Mem) => (q_st (z_sfr M_12 516 (z_sz M_8) x_12) (fun (M_13 : z_Mem) => (q_st (Option.getD (z_fr M_13 1024 a) 0) (fun (a17 : Nat) => (q_st (cF_X5_putToClient a17 (z_fi M_13 1038 a) (some (z_sz M_8)) M_13) (fun (M_16 : z_Mem) => M_16))))))))))))))))))) else M) := rfl
set_option maxRecDepth 100000 in
set_option maxHeartbeats 4000000 in
theorem cS_X8_acknowledge {Q Post : z_Mem → Prop} {a : Nat} {M : z_Mem} (H : P_X8_acknowledge a M Q) (K : ∀ M1, Q M1 → cF_X8_acknowledge a M = M1 → Post M1) : P_X8_acknowledge a M Post := by
  have hF := cE_X8_acknowledge a M
  unfold P_X8_acknowledge at H ⊢
  refine And.intro (fun c1 => ?_) (fun c1 => ?_)
  · replace H := H.1 c1
    replace hF := hF.trans (if_pos c1)
    refine And.intro (fun c2 => ?_) (fun c2 => ?_)
    · replace H := H.1 c2
      replace hF := hF.trans (if_pos c2)
      exact K _ H hF
    · replace H := H.2 c2
      replace hF := hF.trans (if_neg c2)
      intro M_6 e_M_6
      replace H := H M_6 e_M_6
      replace hF := hF.trans (q_ste e_M_6)
      intro M_7 e_M_7
      replace H := H M_7 e_M_7
      replace hF := hF.trans (q_ste e_M_7)
      intro M_8 e_M_8
      replace H := H M_8 e_M_8
      replace hF := hF.trans (q_ste e_M_8)
      refine And.intro H.1 ?_
      replace H := H.2
      intro M_10 e_M_10
      replace H := H M_10 e_M_10
      replace hF := hF.trans (q_ste e_M_10)
      refine cS_X4_init H (fun M_11 H u => ?_)
      replace hF := hF.trans (q_ste u.symm)
      refine cS_X8_makeAck H (fun x_12 M_12 H u => ?_)
      replace hF := hF.trans (q_ste2 u)
      intro M_13 e_M_13
      replace H := H M_13 e_M_13
      replace hF := hF.trans (q_ste e_M_13)
      obtain ⟨a17, e_a17, H⟩ := H
      refine z_nn_of e_a17 ?_
      replace hF := hF.trans (q_ste (q_gd e_a17))
      refine cS_X5_putToClient H (fun M_16 H u => ?_)
      replace hF := hF.trans (q_ste u.symm)
      exact K _ H hF
  · replace H := H.2 c1
    replace hF := hF.trans (if_neg c1)
    exact K _ H hF
set_option maxRecDepth 100000 in
noncomputable def cF_X8_readBytes (a : Nat) (p1 : Option Nat) (p2 : Int32) (M : z_Mem) : (Int32 × z_Mem) := (q_st (Option.getD p1 0) (fun (a1 : Nat) => (q_st ((if (0 < ((if (((z_fi M 1157 a1) - (z_fi M 1158 a1)) < p2) then ((z_fi M 1157 a1) - (z_fi M 1158 a1)) else p2) : Int32)) then ((if (((z_fi M 1157 a1) - (z_fi M 1158 a1)) < p2) then ((z_fi M 1157 a1) - (z_fi M 1158 a1)) else p2) : Int32) else 0) : Int32) (fun (x_4 : Int32) => (q_st (z_sfi M 1158 a1 ((z_fi M 1158 a1) + x_4)) (fun (M_6 : z_Mem) => (if (x_4 ≤ 0) then (x_4, M_6) else (q_st (cF_X8_acknowledge a M_6) (fun (M_8 : z_Mem) => (x_4, M_8))))))))))
set_option maxRecDepth 100000 in
theorem cE_X8_readBytes (a : Nat) (p1 : Option Nat) (p2 : Int32) (M : z_Mem) : cF_X8_readBytes a p1 p2 M = (q_st (Option.getD p1 0) (fun (a1 : Nat) => (q_st ((if (0 < ((if (((z_fi M 1157 a1) - (z_fi M 1158 a1)) < p2) then ((z_fi M 1157 a1) - (z_fi M 1158 a1)) else p2) : Int32)) then ((if (((z_fi M 1157 a1) - (z_fi M 1158 a1)) < p2) then ((z_fi M 1157 a1) - (z_fi M 1158 a1)) else p2) : Int32) else 0) : Int32) (fun (x_4 : Int32) => (q_st (z_sfi M 1158 a1 ((z_fi M 1158 a1) + x_4)) (fun (M_6 : z_Mem) => (if (x_4 ≤ 0) then (x_4, M_6) else (q_st (cF_X8_acknowledge a M_6) (fun (M_8 : z_Mem) => (x_4, M_8)))))))))) := rfl
set_option maxRecDepth 100000 in
set_option maxHeartbeats 4000000 in
theorem cS_X8_readBytes {Q Post : Int32 → z_Mem → Prop} {a : Nat} {p1 : Option Nat} {p2 : Int32} {M : z_Mem} (H : P_X8_readBytes a p1 p2 M Q) (K : ∀ x M1, Q x M1 → cF_X8_readBytes a p1 p2 M = (x, M1) → Post x M1) : P_X8_readBytes a p1 p2 M Post := by
  have hF := cE_X8_readBytes a p1 p2 M
  unfold P_X8_readBytes at H ⊢
  obtain ⟨a1, e_a1, H⟩ := H
  refine z_nn_of e_a1 ?_
  replace hF := hF.trans (q_ste (q_gd e_a1))
  intro x_4 e_x_4
  replace H := H x_4 e_x_4
  replace hF := hF.trans (q_ste e_x_4)
  intro M_6 e_M_6
  replace H := H M_6 e_M_6
  replace hF := hF.trans (q_ste e_M_6)
  refine And.intro (fun c1 => ?_) (fun c1 => ?_)
  · replace H := H.1 c1
    replace hF := hF.trans (if_pos c1)
    exact K _ _ H hF
  · replace H := H.2 c1
    replace hF := hF.trans (if_neg c1)
    refine cS_X8_acknowledge H (fun M_8 H u => ?_)
    replace hF := hF.trans (q_ste u.symm)
    exact K _ _ H hF
set_option maxRecDepth 100000 in
noncomputable def cB_X11_clearRow_2 (x0 : Option Nat) (x1 : Int32) (M : z_Mem) : (Option Nat × Int32 × z_Mem) ⊕ z_Mem := (q_st (Option.getD x0 0) (fun (a1 : Nat) => (if ((nI (z_ln M a1)) ≤ x1) then (.inr M) else (q_st (z_sai M a1 (x1 : Int32).toNatClampNeg 0) (fun (M_4 : z_Mem) => (q_st (x1 + 1) (fun (x_5 : Int32) => (.inl (x0, x_5, M_4)))))))))
set_option maxRecDepth 100000 in
noncomputable def cF_X11_clearRow_2 (x0 : Option Nat) (x1 : Int32) (M : z_Mem) : z_Mem := q_lp (X := (Option Nat × Int32 × z_Mem)) (Y := z_Mem) M (fun t => cB_X11_clearRow_2 t.1 t.2.1 t.2.2) (x0, x1, M)
set_option maxRecDepth 100000 in
theorem cUl_X11_clearRow_2 {x0 : Option Nat} {x1 : Int32} {M : z_Mem} {y_x0 : Option Nat} {y_x1 : Int32} {M1 : z_Mem} (h : cB_X11_clearRow_2 x0 x1 M = .inl (y_x0, y_x1, M1)) : cF_X11_clearRow_2 x0 x1 M = cF_X11_clearRow_2 y_x0 y_x1 M1 := q_lpl (step := fun t => cB_X11_clearRow_2 t.1 t.2.1 t.2.2) h
set_option maxRecDepth 100000 in
theorem cUr_X11_clearRow_2 {x0 : Option Nat} {x1 : Int32} {M : z_Mem} {y : z_Mem} (h : cB_X11_clearRow_2 x0 x1 M = .inr y) : cF_X11_clearRow_2 x0 x1 M = y := q_lpr (step := fun t => cB_X11_clearRow_2 t.1 t.2.1 t.2.2) h
set_option maxRecDepth 100000 in
theorem cE_X11_clearRow_2 (x0 : Option Nat) (x1 : Int32) (M : z_Mem) : cB_X11_clearRow_2 x0 x1 M = (q_st (Option.getD x0 0) (fun (a1 : Nat) => (if ((nI (z_ln M a1)) ≤ x1) then (.inr M) else (q_st (z_sai M a1 (x1 : Int32).toNatClampNeg 0) (fun (M_4 : z_Mem) => (q_st (x1 + 1) (fun (x_5 : Int32) => (.inl (x0, x_5, M_4))))))))) := rfl
set_option maxRecDepth 100000 in
set_option maxHeartbeats 4000000 in
theorem cS_X11_clearRow_2 {Q Post : z_Mem → Prop} : ∀ (m : Nat) {x0 : Option Nat} {x1 : Int32} {M : z_Mem} (H : P_X11_clearRow_2 Q m x0 x1 M) (K : ∀ M1, Q M1 → cF_X11_clearRow_2 x0 x1 M = M1 → Post M1), P_X11_clearRow_2 Post m x0 x1 M := by
  intro m
  induction m with
  | zero => intros; rename_i H _; exact False.elim H
  | succ m ih =>
    intro x0 x1 M H K
    have hF := cE_X11_clearRow_2 x0 x1 M
    unfold P_X11_clearRow_2 at H ⊢
    obtain ⟨a1, e_a1, H⟩ := H
    refine z_nn_of e_a1 ?_
    replace hF := hF.trans (q_ste (q_gd e_a1))
    refine And.intro (fun c1 => ?_) (fun c1 => ?_)
    · replace H := H.1 c1
      replace hF := hF.trans (if_pos c1)
      exact K _ H (cUr_X11_clearRow_2 hF)
    · replace H := H.2 c1
      replace hF := hF.trans (if_neg c1)
      refine And.intro H.1 ?_
      replace H := H.2
      intro M_4 e_M_4
      replace H := H M_4 e_M_4
      replace hF := hF.trans (q_ste e_M_4)
      intro x_5 e_x_5
      replace H := H x_5 e_x_5
      replace hF := hF.trans (q_ste e_x_5)
      replace hF := cUl_X11_clearRow_2 hF
      exact ih H (fun M1 q u => K M1 q (hF.trans u))
