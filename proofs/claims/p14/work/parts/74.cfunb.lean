/-! ===== THE CLASS as functions on memories, 2 ===== -/
set_option maxRecDepth 100000 in
noncomputable def cF_X1_leaveFlight (a : Nat) (p1 : Option Nat) (p2 : Int32) (M : z_Mem) : z_Mem := (q_st (Option.getD p1 0) (fun (a10 : Nat) => (q_st (z_sfi M 778 a10 p2) (fun (M_11 : z_Mem) => (q_st2 (cF_X1_routeOf a (z_fi M_11 769 a10) M_11) (fun (x_13 : Option Nat) (M_13 : z_Mem) => (q_st (Option.getD x_13 0) (fun (a14 : Nat) => (q_st (z_sfi M_13 899 a14 ((z_fi M_13 899 a14) - 1)) (fun (M_16 : z_Mem) => (if ((z_fi M_16 771 a10) < 0) then M_16 else (if (4 ≤ (z_fi M_16 771 a10)) then M_16 else (if (p2 = 1) then (q_st (Option.getD (z_fr M_16 129 a) 0) (fun (a24 : Nat) => (q_st (Option.getD (z_ar M_16 a24 ((z_fi M_16 771 a10) : Int32).toNatClampNeg) 0) (fun (a29 : Nat) => (q_st (cF_X9_acknowledge a29 (z_fi M_16 772 a10) (z_fi M_16 773 a10) M_16) (fun (M_28 : z_Mem) => (cF_X1_leaveFlight_62 a p1 M_28))))))) else (cF_X1_leaveFlight_62 a p1 M_16))))))))))))))
set_option maxRecDepth 100000 in
theorem cE_X1_leaveFlight (a : Nat) (p1 : Option Nat) (p2 : Int32) (M : z_Mem) : cF_X1_leaveFlight a p1 p2 M = (q_st (Option.getD p1 0) (fun (a10 : Nat) => (q_st (z_sfi M 778 a10 p2) (fun (M_11 : z_Mem) => (q_st2 (cF_X1_routeOf a (z_fi M_11 769 a10) M_11) (fun (x_13 : Option Nat) (M_13 : z_Mem) => (q_st (Option.getD x_13 0) (fun (a14 : Nat) => (q_st (z_sfi M_13 899 a14 ((z_fi M_13 899 a14) - 1)) (fun (M_16 : z_Mem) => (if ((z_fi M_16 771 a10) < 0) then M_16 else (if (4 ≤ (z_fi M_16 771 a10)) then M_16 else (if (p2 = 1) then (q_st (Option.getD (z_fr M_16 129 a) 0) (fun (a24 : Nat) => (q_st (Option.getD (z_ar M_16 a24 ((z_fi M_16 771 a10) : Int32).toNatClampNeg) 0) (fun (a29 : Nat) => (q_st (cF_X9_acknowledge a29 (z_fi M_16 772 a10) (z_fi M_16 773 a10) M_16) (fun (M_28 : z_Mem) => (cF_X1_leaveFlight_62 a p1 M_28))))))) else (cF_X1_leaveFlight_62 a p1 M_16)))))))))))))) := rfl
set_option maxRecDepth 100000 in
set_option maxHeartbeats 4000000 in
theorem cS_X1_leaveFlight {Q Post : z_Mem → Prop} {a : Nat} {p1 : Option Nat} {p2 : Int32} {M : z_Mem} (H : P_X1_leaveFlight a p1 p2 M Q) (K : ∀ M1, Q M1 → cF_X1_leaveFlight a p1 p2 M = M1 → Post M1) : P_X1_leaveFlight a p1 p2 M Post := by
  have hF := cE_X1_leaveFlight a p1 p2 M
  unfold P_X1_leaveFlight at H ⊢
  obtain ⟨a10, e_a10, H⟩ := H
  refine z_nn_of e_a10 ?_
  replace hF := hF.trans (q_ste (q_gd e_a10))
  intro M_11 e_M_11
  replace H := H M_11 e_M_11
  replace hF := hF.trans (q_ste e_M_11)
  refine cS_X1_routeOf H (fun x_13 M_13 H u => ?_)
  replace hF := hF.trans (q_ste2 u)
  obtain ⟨a14, e_a14, H⟩ := H
  refine z_nn_of e_a14 ?_
  replace hF := hF.trans (q_ste (q_gd e_a14))
  intro M_16 e_M_16
  replace H := H M_16 e_M_16
  replace hF := hF.trans (q_ste e_M_16)
  refine And.intro (fun c1 => ?_) (fun c1 => ?_)
  · replace H := H.1 c1
    replace hF := hF.trans (if_pos c1)
    exact K _ H hF
  · replace H := H.2 c1
    replace hF := hF.trans (if_neg c1)
    refine And.intro (fun c2 => ?_) (fun c2 => ?_)
    · replace H := H.1 c2
      replace hF := hF.trans (if_pos c2)
      exact K _ H hF
    · replace H := H.2 c2
      replace hF := hF.trans (if_neg c2)
      refine And.intro (fun c3 => ?_) (fun c3 => ?_)
      · replace H := H.1 c3
        replace hF := hF.trans (if_pos c3)
        obtain ⟨a24, e_a24, H⟩ := H
        refine z_nn_of e_a24 ?_
        replace hF := hF.trans (q_ste (q_gd e_a24))
        refine And.intro H.1 ?_
        replace H := H.2
        obtain ⟨a29, e_a29, H⟩ := H
        refine z_nn_of e_a29 ?_
        replace hF := hF.trans (q_ste (q_gd e_a29))
        refine cS_X9_acknowledge H (fun M_28 H u => ?_)
        replace hF := hF.trans (q_ste u.symm)
        exact cS_X1_leaveFlight_62 H (fun M1 q u => K M1 q (hF.trans u))
      · replace H := H.2 c3
        replace hF := hF.trans (if_neg c3)
        exact cS_X1_leaveFlight_62 H (fun M1 q u => K M1 q (hF.trans u))
set_option maxRecDepth 100000 in
noncomputable def cF_X1_hearAccept_71 (a : Nat) (x1 : Int32) (x2 : Int32) (M : z_Mem) : ((Int32 × Int32 × z_Mem) ⊕ z_Mem) := (q_st (x2 + 1) (fun (x_1 : Int32) => (.inl (x1, x_1, M))))
set_option maxRecDepth 100000 in
theorem cE_X1_hearAccept_71 (a : Nat) (x1 : Int32) (x2 : Int32) (M : z_Mem) : cF_X1_hearAccept_71 a x1 x2 M = (q_st (x2 + 1) (fun (x_1 : Int32) => (.inl (x1, x_1, M)))) := rfl
set_option maxRecDepth 100000 in
set_option maxHeartbeats 4000000 in
theorem cS_X1_hearAccept_71 {Q Post : z_Mem → Prop} {a : Nat} {x1 : Int32} {x2 : Int32} {QJ29 PJ29 : Int32 → Int32 → z_Mem → Prop} {M : z_Mem} (H : P_X1_hearAccept_71 a Q QJ29 x1 x2 M) (K : ∀ M1, Q M1 → cF_X1_hearAccept_71 a x1 x2 M = (.inr M1) → Post M1) (KJ29 : ∀ v0 v1 M1, QJ29 v0 v1 M1 → cF_X1_hearAccept_71 a x1 x2 M = (.inl (v0, v1, M1)) → PJ29 v0 v1 M1) : P_X1_hearAccept_71 a Post PJ29 x1 x2 M := by
  have hF := cE_X1_hearAccept_71 a x1 x2 M
  unfold P_X1_hearAccept_71 at H ⊢
  intro x_1 e_x_1
  replace H := H x_1 e_x_1
  replace hF := hF.trans (q_ste e_x_1)
  exact KJ29 _ _ _ H hF
set_option maxRecDepth 100000 in
noncomputable def cB_X1_hearAccept_29 (a : Nat) (x1 : Int32) (x2 : Int32) (M : z_Mem) : (Int32 × Int32 × z_Mem) ⊕ z_Mem := (if ((z_fi M 133 a) ≤ x2) then (.inr M) else (if (x1 = 0) then (q_st2 (cF_X1_packetAt a x2 M) (fun (x_5 : Option Nat) (M_5 : z_Mem) => (q_op x_5 (cF_X1_hearAccept_71 a x1 x2 M_5) (fun a6 => (if ((z_fi M_5 776 a6) = 0) then (cF_X1_hearAccept_71 a x1 x2 M_5) else (if ((z_fi M_5 778 a6) = 0) then (q_st (cF_X1_leaveFlight a x_5 4 M_5) (fun (M_11 : z_Mem) => (cF_X1_hearAccept_71 a x1 x2 M_11))) else (cF_X1_hearAccept_71 a x1 x2 M_5))))))) else (.inr M)))
set_option maxRecDepth 100000 in
noncomputable def cF_X1_hearAccept_29 (a : Nat) (x1 : Int32) (x2 : Int32) (M : z_Mem) : z_Mem := q_lp (X := (Int32 × Int32 × z_Mem)) (Y := z_Mem) M (fun t => cB_X1_hearAccept_29 a t.1 t.2.1 t.2.2) (x1, x2, M)
set_option maxRecDepth 100000 in
theorem cUl_X1_hearAccept_29 {a : Nat} {x1 : Int32} {x2 : Int32} {M : z_Mem} {y_x1 : Int32} {y_x2 : Int32} {M1 : z_Mem} (h : cB_X1_hearAccept_29 a x1 x2 M = .inl (y_x1, y_x2, M1)) : cF_X1_hearAccept_29 a x1 x2 M = cF_X1_hearAccept_29 a y_x1 y_x2 M1 := q_lpl (step := fun t => cB_X1_hearAccept_29 a t.1 t.2.1 t.2.2) h
set_option maxRecDepth 100000 in
theorem cUr_X1_hearAccept_29 {a : Nat} {x1 : Int32} {x2 : Int32} {M : z_Mem} {y : z_Mem} (h : cB_X1_hearAccept_29 a x1 x2 M = .inr y) : cF_X1_hearAccept_29 a x1 x2 M = y := q_lpr (step := fun t => cB_X1_hearAccept_29 a t.1 t.2.1 t.2.2) h
set_option maxRecDepth 100000 in
theorem cE_X1_hearAccept_29 (a : Nat) (x1 : Int32) (x2 : Int32) (M : z_Mem) : cB_X1_hearAccept_29 a x1 x2 M = (if ((z_fi M 133 a) ≤ x2) then (.inr M) else (if (x1 = 0) then (q_st2 (cF_X1_packetAt a x2 M) (fun (x_5 : Option Nat) (M_5 : z_Mem) => (q_op x_5 (cF_X1_hearAccept_71 a x1 x2 M_5) (fun a6 => (if ((z_fi M_5 776 a6) = 0) then (cF_X1_hearAccept_71 a x1 x2 M_5) else (if ((z_fi M_5 778 a6) = 0) then (q_st (cF_X1_leaveFlight a x_5 4 M_5) (fun (M_11 : z_Mem) => (cF_X1_hearAccept_71 a x1 x2 M_11))) else (cF_X1_hearAccept_71 a x1 x2 M_5))))))) else (.inr M))) := rfl
set_option maxRecDepth 100000 in
set_option maxHeartbeats 4000000 in
theorem cS_X1_hearAccept_29 {Q Post : z_Mem → Prop} {a : Nat} : ∀ (m : Nat) {x1 : Int32} {x2 : Int32} {M : z_Mem} (H : P_X1_hearAccept_29 a Q m x1 x2 M) (K : ∀ M1, Q M1 → cF_X1_hearAccept_29 a x1 x2 M = M1 → Post M1), P_X1_hearAccept_29 a Post m x1 x2 M := by
  intro m
  induction m with
  | zero => intros; rename_i H _; exact False.elim H
  | succ m ih =>
    intro x1 x2 M H K
    have hF := cE_X1_hearAccept_29 a x1 x2 M
    unfold P_X1_hearAccept_29 at H ⊢
    refine And.intro (fun c1 => ?_) (fun c1 => ?_)
    · replace H := H.1 c1
      replace hF := hF.trans (if_pos c1)
      exact K _ H (cUr_X1_hearAccept_29 hF)
    · replace H := H.2 c1
      replace hF := hF.trans (if_neg c1)
      refine And.intro (fun c2 => ?_) (fun c2 => ?_)
      · replace H := H.1 c2
        replace hF := hF.trans (if_pos c2)
        refine cS_X1_packetAt H (fun x_5 M_5 H u => ?_)
        replace hF := hF.trans (q_ste2 u)
        refine And.intro (fun c3 => ?_) (fun a6 c3 => ?_)
        · replace H := H.1 c3
          replace hF := hF.trans (q_opn c3)
          exact cS_X1_hearAccept_71 H (fun M1 q u => K M1 q (cUr_X1_hearAccept_29 (hF.trans u))) (fun v0 v1 M1 q u => ih q (fun M1 q u2 => K M1 q ((cUl_X1_hearAccept_29 (hF.trans u)).trans u2))) 
        · replace H := H.2 a6 c3
          replace hF := hF.trans (q_ops c3)
          refine And.intro (fun c4 => ?_) (fun c4 => ?_)
          · replace H := H.1 c4
            replace hF := hF.trans (if_pos c4)
            exact cS_X1_hearAccept_71 H (fun M1 q u => K M1 q (cUr_X1_hearAccept_29 (hF.trans u))) (fun v0 v1 M1 q u => ih q (fun M1 q u2 => K M1 q ((cUl_X1_hearAccept_29 (hF.trans u)).trans u2))) 
          · replace H := H.2 c4
            replace hF := hF.trans (if_neg c4)
            refine And.intro (fun c5 => ?_) (fun c5 => ?_)
            · replace H := H.1 c5
              replace hF := hF.trans (if_pos c5)
              refine cS_X1_leaveFlight H (fun M_11 H u => ?_)
              replace hF := hF.trans (q_ste u.symm)
              exact cS_X1_hearAccept_71 H (fun M1 q u => K M1 q (cUr_X1_hearAccept_29 (hF.trans u))) (fun v0 v1 M1 q u => ih q (fun M1 q u2 => K M1 q ((cUl_X1_hearAccept_29 (hF.trans u)).trans u2))) 
            · replace H := H.2 c5
              replace hF := hF.trans (if_neg c5)
              exact cS_X1_hearAccept_71 H (fun M1 q u => K M1 q (cUr_X1_hearAccept_29 (hF.trans u))) (fun v0 v1 M1 q u => ih q (fun M1 q u2 => K M1 q ((cUl_X1_hearAccept_29 (hF.trans u)).trans u2))) 
      · replace H := H.2 c2
        replace hF := hF.trans (if_neg c2)
        exact K _ H (cUr_X1_hearAccept_29 hF)
set_option maxRecDepth 100000 in
noncomputable def cF_X1_hearAccept (a : Nat) (p1 : Int32) (M : z_Mem) : z_Mem := (q_st (z_sfi M 135 a 2) (fun (M_12 : z_Mem) => (q_st (Option.getD (z_fr M_12 128 a) 0) (fun (a15 : Nat) => (q_st (Option.getD (z_fr M_12 130 a) 0) (fun (a19 : Nat) => (q_st (cF_X7_measure a19 ((z_fi M_12 645 a15) - (z_fi M_12 139 a)) M_12) (fun (M_18 : z_Mem) => (q_st (z_fi M_18 134 a) (fun (x_21 : Int32) => (cF_X1_hearAccept_29 a p1 x_21 M_18)))))))))))
set_option maxRecDepth 100000 in
theorem cE_X1_hearAccept (a : Nat) (p1 : Int32) (M : z_Mem) : cF_X1_hearAccept a p1 M = (q_st (z_sfi M 135 a 2) (fun (M_12 : z_Mem) => (q_st (Option.getD (z_fr M_12 128 a) 0) (fun (a15 : Nat) => (q_st (Option.getD (z_fr M_12 130 a) 0) (fun (a19 : Nat) => (q_st (cF_X7_measure a19 ((z_fi M_12 645 a15) - (z_fi M_12 139 a)) M_12) (fun (M_18 : z_Mem) => (q_st (z_fi M_18 134 a) (fun (x_21 : Int32) => (cF_X1_hearAccept_29 a p1 x_21 M_18))))))))))) := rfl
set_option maxRecDepth 100000 in
set_option maxHeartbeats 4000000 in
theorem cS_X1_hearAccept {Q Post : z_Mem → Prop} {a : Nat} {p1 : Int32} {M : z_Mem} (H : P_X1_hearAccept a p1 M Q) (K : ∀ M1, Q M1 → cF_X1_hearAccept a p1 M = M1 → Post M1) : P_X1_hearAccept a p1 M Post := by
  have hF := cE_X1_hearAccept a p1 M
  unfold P_X1_hearAccept at H ⊢
  intro M_12 e_M_12
  replace H := H M_12 e_M_12
  replace hF := hF.trans (q_ste e_M_12)
  obtain ⟨a15, e_a15, H⟩ := H
  refine z_nn_of e_a15 ?_
  replace hF := hF.trans (q_ste (q_gd e_a15))
  obtain ⟨a19, e_a19, H⟩ := H
  refine z_nn_of e_a19 ?_
  replace hF := hF.trans (q_ste (q_gd e_a19))
  refine cS_X7_measure H (fun M_18 H u => ?_)
  replace hF := hF.trans (q_ste u.symm)
  intro x_21 e_x_21
  replace H := H x_21 e_x_21
  replace hF := hF.trans (q_ste e_x_21)
  obtain ⟨m, H⟩ := H
  refine ⟨m, ?_⟩
  exact cS_X1_hearAccept_29 m H (fun M1 q u => K M1 q (hF.trans u))
set_option maxRecDepth 100000 in
noncomputable def cF_X2_keepRate (a : Nat) (p1 : Int32) (M : z_Mem) : z_Mem := (q_st (Option.getD (z_fr M 265 a) 0) (fun (a3 : Nat) => (q_st (z_sai M a3 ((z_fi M 266 a) : Int32).toNatClampNeg p1) (fun (M_5 : z_Mem) => (q_st (z_sfi M_5 266 a (((z_fi M_5 266 a) + 1) - ((((z_fi M_5 266 a) + 1) / 8) * 8))) (fun (M_7 : z_Mem) => M_7))))))
set_option maxRecDepth 100000 in
theorem cE_X2_keepRate (a : Nat) (p1 : Int32) (M : z_Mem) : cF_X2_keepRate a p1 M = (q_st (Option.getD (z_fr M 265 a) 0) (fun (a3 : Nat) => (q_st (z_sai M a3 ((z_fi M 266 a) : Int32).toNatClampNeg p1) (fun (M_5 : z_Mem) => (q_st (z_sfi M_5 266 a (((z_fi M_5 266 a) + 1) - ((((z_fi M_5 266 a) + 1) / 8) * 8))) (fun (M_7 : z_Mem) => M_7)))))) := rfl
set_option maxRecDepth 100000 in
set_option maxHeartbeats 4000000 in
theorem cS_X2_keepRate {Q Post : z_Mem → Prop} {a : Nat} {p1 : Int32} {M : z_Mem} (H : P_X2_keepRate a p1 M Q) (K : ∀ M1, Q M1 → cF_X2_keepRate a p1 M = M1 → Post M1) : P_X2_keepRate a p1 M Post := by
  have hF := cE_X2_keepRate a p1 M
  unfold P_X2_keepRate at H ⊢
  obtain ⟨a3, e_a3, H⟩ := H
  refine z_nn_of e_a3 ?_
  replace hF := hF.trans (q_ste (q_gd e_a3))
  refine And.intro H.1 ?_
  replace H := H.2
  intro M_5 e_M_5
  replace H := H M_5 e_M_5
  replace hF := hF.trans (q_ste e_M_5)
  intro M_7 e_M_7
  replace H := H M_7 e_M_7
  replace hF := hF.trans (q_ste e_M_7)
  exact K _ H hF
set_option maxRecDepth 100000 in
noncomputable def cB_X2_greatestRate_13 (a : Nat) (x1 : Int32) (x2 : Option Nat) (x3 : Int32) (x4 : Int32) (M : z_Mem) : (Int32 × Option Nat × Int32 × Int32 × z_Mem) ⊕ (Int32 × z_Mem) := (if (x3 ≤ x4) then (.inr (x1, M)) else (q_st (Option.getD x2 0) (fun (a2 : Nat) => (q_st (z_ai M a2 (x4 : Int32).toNatClampNeg) (fun (x_4 : Int32) => (q_st ((if (x1 < x_4) then x_4 else x1) : Int32) (fun (x_5 : Int32) => (q_st (x4 + 1) (fun (x_6 : Int32) => (.inl (x_5, x2, x3, x_6, M)))))))))))
set_option maxRecDepth 100000 in
noncomputable def cF_X2_greatestRate_13 (a : Nat) (x1 : Int32) (x2 : Option Nat) (x3 : Int32) (x4 : Int32) (M : z_Mem) : (Int32 × z_Mem) := q_lp (X := (Int32 × Option Nat × Int32 × Int32 × z_Mem)) (Y := (Int32 × z_Mem)) ((0 : Int32), M) (fun t => cB_X2_greatestRate_13 a t.1 t.2.1 t.2.2.1 t.2.2.2.1 t.2.2.2.2) (x1, x2, x3, x4, M)
set_option maxRecDepth 100000 in
theorem cUl_X2_greatestRate_13 {a : Nat} {x1 : Int32} {x2 : Option Nat} {x3 : Int32} {x4 : Int32} {M : z_Mem} {y_x1 : Int32} {y_x2 : Option Nat} {y_x3 : Int32} {y_x4 : Int32} {M1 : z_Mem} (h : cB_X2_greatestRate_13 a x1 x2 x3 x4 M = .inl (y_x1, y_x2, y_x3, y_x4, M1)) : cF_X2_greatestRate_13 a x1 x2 x3 x4 M = cF_X2_greatestRate_13 a y_x1 y_x2 y_x3 y_x4 M1 := q_lpl (step := fun t => cB_X2_greatestRate_13 a t.1 t.2.1 t.2.2.1 t.2.2.2.1 t.2.2.2.2) h
set_option maxRecDepth 100000 in
theorem cUr_X2_greatestRate_13 {a : Nat} {x1 : Int32} {x2 : Option Nat} {x3 : Int32} {x4 : Int32} {M : z_Mem} {y : (Int32 × z_Mem)} (h : cB_X2_greatestRate_13 a x1 x2 x3 x4 M = .inr y) : cF_X2_greatestRate_13 a x1 x2 x3 x4 M = y := q_lpr (step := fun t => cB_X2_greatestRate_13 a t.1 t.2.1 t.2.2.1 t.2.2.2.1 t.2.2.2.2) h
set_option maxRecDepth 100000 in
theorem cE_X2_greatestRate_13 (a : Nat) (x1 : Int32) (x2 : Option Nat) (x3 : Int32) (x4 : Int32) (M : z_Mem) : cB_X2_greatestRate_13 a x1 x2 x3 x4 M = (if (x3 ≤ x4) then (.inr (x1, M)) else (q_st (Option.getD x2 0) (fun (a2 : Nat) => (q_st (z_ai M a2 (x4 : Int32).toNatClampNeg) (fun (x_4 : Int32) => (q_st ((if (x1 < x_4) then x_4 else x1) : Int32) (fun (x_5 : Int32) => (q_st (x4 + 1) (fun (x_6 : Int32) => (.inl (x_5, x2, x3, x_6, M))))))))))) := rfl
set_option maxRecDepth 100000 in
set_option maxHeartbeats 4000000 in
theorem cS_X2_greatestRate_13 {Q Post : Int32 → z_Mem → Prop} {a : Nat} : ∀ (m : Nat) {x1 : Int32} {x2 : Option Nat} {x3 : Int32} {x4 : Int32} {M : z_Mem} (H : P_X2_greatestRate_13 a Q m x1 x2 x3 x4 M) (K : ∀ x M1, Q x M1 → cF_X2_greatestRate_13 a x1 x2 x3 x4 M = (x, M1) → Post x M1), P_X2_greatestRate_13 a Post m x1 x2 x3 x4 M := by
  intro m
  induction m with
  | zero => intros; rename_i H _; exact False.elim H
  | succ m ih =>
    intro x1 x2 x3 x4 M H K
    have hF := cE_X2_greatestRate_13 a x1 x2 x3 x4 M
    unfold P_X2_greatestRate_13 at H ⊢
    refine And.intro (fun c1 => ?_) (fun c1 => ?_)
    · replace H := H.1 c1
      replace hF := hF.trans (if_pos c1)
      exact K _ _ H (cUr_X2_greatestRate_13 hF)
    · replace H := H.2 c1
      replace hF := hF.trans (if_neg c1)
      obtain ⟨a2, e_a2, H⟩ := H
      refine z_nn_of e_a2 ?_
      replace hF := hF.trans (q_ste (q_gd e_a2))
      refine And.intro H.1 ?_
      replace H := H.2
      intro x_4 e_x_4
      replace H := H x_4 e_x_4
      replace hF := hF.trans (q_ste e_x_4)
      intro x_5 e_x_5
      replace H := H x_5 e_x_5
      replace hF := hF.trans (q_ste e_x_5)
      intro x_6 e_x_6
      replace H := H x_6 e_x_6
      replace hF := hF.trans (q_ste e_x_6)
      replace hF := cUl_X2_greatestRate_13 hF
      exact ih H (fun x M1 q u => K x M1 q (hF.trans u))
set_option maxRecDepth 100000 in
noncomputable def cF_X2_greatestRate (a : Nat) (M : z_Mem) : (Int32 × z_Mem) := (q_st (Option.getD (z_fr M 265 a) 0) (fun (a8 : Nat) => (q_st (nI (z_ln M a8)) (fun (x_9 : Int32) => (cF_X2_greatestRate_13 a 0 (z_fr M 265 a) x_9 0 M)))))
set_option maxRecDepth 100000 in
theorem cE_X2_greatestRate (a : Nat) (M : z_Mem) : cF_X2_greatestRate a M = (q_st (Option.getD (z_fr M 265 a) 0) (fun (a8 : Nat) => (q_st (nI (z_ln M a8)) (fun (x_9 : Int32) => (cF_X2_greatestRate_13 a 0 (z_fr M 265 a) x_9 0 M))))) := rfl
set_option maxRecDepth 100000 in
set_option maxHeartbeats 4000000 in
theorem cS_X2_greatestRate {Q Post : Int32 → z_Mem → Prop} {a : Nat} {M : z_Mem} (H : P_X2_greatestRate a M Q) (K : ∀ x M1, Q x M1 → cF_X2_greatestRate a M = (x, M1) → Post x M1) : P_X2_greatestRate a M Post := by
  have hF := cE_X2_greatestRate a M
  unfold P_X2_greatestRate at H ⊢
  obtain ⟨a8, e_a8, H⟩ := H
  refine z_nn_of e_a8 ?_
  replace hF := hF.trans (q_ste (q_gd e_a8))
  intro x_9 e_x_9
  replace H := H x_9 e_x_9
  replace hF := hF.trans (q_ste e_x_9)
  obtain ⟨m, H⟩ := H
  refine ⟨m, ?_⟩
  exact cS_X2_greatestRate_13 m H (fun x M1 q u => K x M1 q (hF.trans u))
set_option maxRecDepth 100000 in
noncomputable def cF_X2_cubeStep_56 (a : Nat) (x1 : Int32) (x4 : Int64) (M : z_Mem) : (Int32 × z_Mem) := (q_st (((x1 - (z_fi M 262 a)) : Int32).toInt64 - x4) (fun (x_2 : Int64) => (q_st (((z_fi M 260 a) : Int32).toInt64 + ((((2 * x_2) * x_2) * x_2) / 125)) (fun (x_4 : Int64) => ((((if (((16 * (x_4 - ((z_fi M 257 a) : Int32).toInt64)) / (((if (1 < (z_fi M 257 a)) then (z_fi M 257 a) else 1) : Int32) : Int32).toInt64) < 1) then 1 else ((16 * (x_4 - ((z_fi M 257 a) : Int32).toInt64)) / (((if (1 < (z_fi M 257 a)) then (z_fi M 257 a) else 1) : Int32) : Int32).toInt64)) : Int64) : Int64).toInt32, M)))))
set_option maxRecDepth 100000 in
theorem cE_X2_cubeStep_56 (a : Nat) (x1 : Int32) (x4 : Int64) (M : z_Mem) : cF_X2_cubeStep_56 a x1 x4 M = (q_st (((x1 - (z_fi M 262 a)) : Int32).toInt64 - x4) (fun (x_2 : Int64) => (q_st (((z_fi M 260 a) : Int32).toInt64 + ((((2 * x_2) * x_2) * x_2) / 125)) (fun (x_4 : Int64) => ((((if (((16 * (x_4 - ((z_fi M 257 a) : Int32).toInt64)) / (((if (1 < (z_fi M 257 a)) then (z_fi M 257 a) else 1) : Int32) : Int32).toInt64) < 1) then 1 else ((16 * (x_4 - ((z_fi M 257 a) : Int32).toInt64)) / (((if (1 < (z_fi M 257 a)) then (z_fi M 257 a) else 1) : Int32) : Int32).toInt64)) : Int64) : Int64).toInt32, M))))) := rfl
set_option maxRecDepth 100000 in
set_option maxHeartbeats 4000000 in
theorem cS_X2_cubeStep_56 {Q Post : Int32 → z_Mem → Prop} {a : Nat} {x1 : Int32} {x4 : Int64} {M : z_Mem} (H : P_X2_cubeStep_56 a Q x1 x4 M) (K : ∀ x M1, Q x M1 → cF_X2_cubeStep_56 a x1 x4 M = (x, M1) → Post x M1) : P_X2_cubeStep_56 a Post x1 x4 M := by
  have hF := cE_X2_cubeStep_56 a x1 x4 M
  unfold P_X2_cubeStep_56 at H ⊢
  intro x_2 e_x_2
  replace H := H x_2 e_x_2
  replace hF := hF.trans (q_ste e_x_2)
  intro x_4 e_x_4
  replace H := H x_4 e_x_4
  replace hF := hF.trans (q_ste e_x_4)
  refine And.intro H.1 ?_
  replace H := H.2
  exact K _ _ H hF
set_option maxRecDepth 100000 in
noncomputable def cB_X2_cubeStep_17 (a : Nat) (x1 : Int32) (x2 : Int64) (x4 : Int64) (M : z_Mem) : (Int32 × Int64 × Int64 × z_Mem) ⊕ (Int32 × z_Mem) := (if (0 ≤ (lg_cmp x4 10000)) then (.inr (cF_X2_cubeStep_56 a x1 x4 M)) else (if (0 ≤ (lg_cmp ((((2 * x4) * x4) * x4) / 125) x2)) then (.inr (cF_X2_cubeStep_56 a x1 x4 M)) else (q_st (x4 + 1) (fun (x_10 : Int64) => (.inl (x1, x2, x_10, M))))))
set_option maxRecDepth 100000 in
noncomputable def cF_X2_cubeStep_17 (a : Nat) (x1 : Int32) (x2 : Int64) (x4 : Int64) (M : z_Mem) : (Int32 × z_Mem) := q_lp (X := (Int32 × Int64 × Int64 × z_Mem)) (Y := (Int32 × z_Mem)) ((0 : Int32), M) (fun t => cB_X2_cubeStep_17 a t.1 t.2.1 t.2.2.1 t.2.2.2) (x1, x2, x4, M)
set_option maxRecDepth 100000 in
theorem cUl_X2_cubeStep_17 {a : Nat} {x1 : Int32} {x2 : Int64} {x4 : Int64} {M : z_Mem} {y_x1 : Int32} {y_x2 : Int64} {y_x4 : Int64} {M1 : z_Mem} (h : cB_X2_cubeStep_17 a x1 x2 x4 M = .inl (y_x1, y_x2, y_x4, M1)) : cF_X2_cubeStep_17 a x1 x2 x4 M = cF_X2_cubeStep_17 a y_x1 y_x2 y_x4 M1 := q_lpl (step := fun t => cB_X2_cubeStep_17 a t.1 t.2.1 t.2.2.1 t.2.2.2) h
set_option maxRecDepth 100000 in
theorem cUr_X2_cubeStep_17 {a : Nat} {x1 : Int32} {x2 : Int64} {x4 : Int64} {M : z_Mem} {y : (Int32 × z_Mem)} (h : cB_X2_cubeStep_17 a x1 x2 x4 M = .inr y) : cF_X2_cubeStep_17 a x1 x2 x4 M = y := q_lpr (step := fun t => cB_X2_cubeStep_17 a t.1 t.2.1 t.2.2.1 t.2.2.2) h
set_option maxRecDepth 100000 in
theorem cE_X2_cubeStep_17 (a : Nat) (x1 : Int32) (x2 : Int64) (x4 : Int64) (M : z_Mem) : cB_X2_cubeStep_17 a x1 x2 x4 M = (if (0 ≤ (lg_cmp x4 10000)) then (.inr (cF_X2_cubeStep_56 a x1 x4 M)) else (if (0 ≤ (lg_cmp ((((2 * x4) * x4) * x4) / 125) x2)) then (.inr (cF_X2_cubeStep_56 a x1 x4 M)) else (q_st (x4 + 1) (fun (x_10 : Int64) => (.inl (x1, x2, x_10, M)))))) := rfl
set_option maxRecDepth 100000 in
set_option maxHeartbeats 4000000 in
theorem cS_X2_cubeStep_17 {Q Post : Int32 → z_Mem → Prop} {a : Nat} : ∀ (m : Nat) {x1 : Int32} {x2 : Int64} {x4 : Int64} {M : z_Mem} (H : P_X2_cubeStep_17 a Q m x1 x2 x4 M) (K : ∀ x M1, Q x M1 → cF_X2_cubeStep_17 a x1 x2 x4 M = (x, M1) → Post x M1), P_X2_cubeStep_17 a Post m x1 x2 x4 M := by
  intro m
  induction m with
  | zero => intros; rename_i H _; exact False.elim H
  | succ m ih =>
    intro x1 x2 x4 M H K
    have hF := cE_X2_cubeStep_17 a x1 x2 x4 M
    unfold P_X2_cubeStep_17 at H ⊢
    refine And.intro (fun c1 => ?_) (fun c1 => ?_)
    · replace H := H.1 c1
      replace hF := hF.trans (if_pos c1)
      exact cS_X2_cubeStep_56 H (fun x M1 q u => K x M1 q (cUr_X2_cubeStep_17 (hF.trans (congrArg Sum.inr u))))
    · replace H := H.2 c1
      replace hF := hF.trans (if_neg c1)
      refine And.intro (fun c2 => ?_) (fun c2 => ?_)
      · replace H := H.1 c2
        replace hF := hF.trans (if_pos c2)
        exact cS_X2_cubeStep_56 H (fun x M1 q u => K x M1 q (cUr_X2_cubeStep_17 (hF.trans (congrArg Sum.inr u))))
      · replace H := H.2 c2
        replace hF := hF.trans (if_neg c2)
        intro x_10 e_x_10
        replace H := H x_10 e_x_10
        replace hF := hF.trans (q_ste e_x_10)
        replace hF := cUl_X2_cubeStep_17 hF
        exact ih H (fun x M1 q u => K x M1 q (hF.trans u))
set_option maxRecDepth 100000 in
noncomputable def cF_X2_cubeStep (a : Nat) (p1 : Int32) (M : z_Mem) : (Int32 × z_Mem) := (q_st ((3 * ((z_fi M 260 a) : Int32).toInt64) / 10) (fun (x_12 : Int64) => (cF_X2_cubeStep_17 a p1 x_12 0 M)))
set_option maxRecDepth 100000 in
theorem cE_X2_cubeStep (a : Nat) (p1 : Int32) (M : z_Mem) : cF_X2_cubeStep a p1 M = (q_st ((3 * ((z_fi M 260 a) : Int32).toInt64) / 10) (fun (x_12 : Int64) => (cF_X2_cubeStep_17 a p1 x_12 0 M))) := rfl
set_option maxRecDepth 100000 in
set_option maxHeartbeats 4000000 in
theorem cS_X2_cubeStep {Q Post : Int32 → z_Mem → Prop} {a : Nat} {p1 : Int32} {M : z_Mem} (H : P_X2_cubeStep a p1 M Q) (K : ∀ x M1, Q x M1 → cF_X2_cubeStep a p1 M = (x, M1) → Post x M1) : P_X2_cubeStep a p1 M Post := by
  have hF := cE_X2_cubeStep a p1 M
  unfold P_X2_cubeStep at H ⊢
  intro x_12 e_x_12
  replace H := H x_12 e_x_12
  replace hF := hF.trans (q_ste e_x_12)
  obtain ⟨m, H⟩ := H
  refine ⟨m, ?_⟩
  exact cS_X2_cubeStep_17 m H (fun x M1 q u => K x M1 q (hF.trans u))
set_option maxRecDepth 100000 in
noncomputable def cF_X2_grow (a : Nat) (p1 : Int32) (p2 : Int32) (p3 : Int32) (p4 : Int32) (M : z_Mem) : z_Mem := (if ((z_fi M 256 a) = 2) then (q_st (cF_X2_keepRate a ((16 * p2) / ((if (1 < p3) then p3 else 1) : Int32)) M) (fun (M_18 : z_Mem) => (q_st2 (cF_X2_greatestRate a M_18) (fun (x_19 : Int32) (M_19 : z_Mem) => (q_st (z_sfi M_19 257 a ((if (64 < ((2 * x_19) * p4)) then ((2 * x_19) * p4) else 64) : Int32)) (fun (M_20 : z_Mem) => M_20)))))) else (if ((z_fi M 258 a) ≤ (z_fi M 257 a)) then (if ((z_fi M 256 a) = 0) then (q_st (z_sfi M 257 a ((z_fi M 257 a) + ((if (1 < (256 / ((if (1 < (z_fi M 257 a)) then (z_fi M 257 a) else 1) : Int32))) then (256 / ((if (1 < (z_fi M 257 a)) then (z_fi M 257 a) else 1) : Int32)) else 1) : Int32))) (fun (M_14 : z_Mem) => M_14)) else (q_st2 (cF_X2_cubeStep a p1 M) (fun (x_9 : Int32) (M_9 : z_Mem) => (q_st (z_sfi M_9 257 a ((z_fi M 257 a) + x_9)) (fun (M_10 : z_Mem) => M_10))))) else (q_st (z_sfi M 257 a ((z_fi M 257 a) + 16)) (fun (M_16 : z_Mem) => M_16))))
set_option maxRecDepth 100000 in
theorem cE_X2_grow (a : Nat) (p1 : Int32) (p2 : Int32) (p3 : Int32) (p4 : Int32) (M : z_Mem) : cF_X2_grow a p1 p2 p3 p4 M = (if ((z_fi M 256 a) = 2) then (q_st (cF_X2_keepRate a ((16 * p2) / ((if (1 < p3) then p3 else 1) : Int32)) M) (fun (M_18 : z_Mem) => (q_st2 (cF_X2_greatestRate a M_18) (fun (x_19 : Int32) (M_19 : z_Mem) => (q_st (z_sfi M_19 257 a ((if (64 < ((2 * x_19) * p4)) then ((2 * x_19) * p4) else 64) : Int32)) (fun (M_20 : z_Mem) => M_20)))))) else (if ((z_fi M 258 a) ≤ (z_fi M 257 a)) then (if ((z_fi M 256 a) = 0) then (q_st (z_sfi M 257 a ((z_fi M 257 a) + ((if (1 < (256 / ((if (1 < (z_fi M 257 a)) then (z_fi M 257 a) else 1) : Int32))) then (256 / ((if (1 < (z_fi M 257 a)) then (z_fi M 257 a) else 1) : Int32)) else 1) : Int32))) (fun (M_14 : z_Mem) => M_14)) else (q_st2 (cF_X2_cubeStep a p1 M) (fun (x_9 : Int32) (M_9 : z_Mem) => (q_st (z_sfi M_9 257 a ((z_fi M 257 a) + x_9)) (fun (M_10 : z_Mem) => M_10))))) else (q_st (z_sfi M 257 a ((z_fi M 257 a) + 16)) (fun (M_16 : z_Mem) => M_16)))) := rfl
set_option maxRecDepth 100000 in
set_option maxHeartbeats 4000000 in
theorem cS_X2_grow {Q Post : z_Mem → Prop} {a : Nat} {p1 : Int32} {p2 : Int32} {p3 : Int32} {p4 : Int32} {M : z_Mem} (H : P_X2_grow a p1 p2 p3 p4 M Q) (K : ∀ M1, Q M1 → cF_X2_grow a p1 p2 p3 p4 M = M1 → Post M1) : P_X2_grow a p1 p2 p3 p4 M Post := by
  have hF := cE_X2_grow a p1 p2 p3 p4 M
  unfold P_X2_grow at H ⊢
  refine And.intro (fun c1 => ?_) (fun c1 => ?_)
  · replace H := H.1 c1
    replace hF := hF.trans (if_pos c1)
    refine And.intro H.1 ?_
    replace H := H.2
    refine cS_X2_keepRate H (fun M_18 H u => ?_)
    replace hF := hF.trans (q_ste u.symm)
    refine cS_X2_greatestRate H (fun x_19 M_19 H u => ?_)
    replace hF := hF.trans (q_ste2 u)
    intro M_20 e_M_20
    replace H := H M_20 e_M_20
    replace hF := hF.trans (q_ste e_M_20)
    exact K _ H hF
  · replace H := H.2 c1
    replace hF := hF.trans (if_neg c1)
    refine And.intro (fun c2 => ?_) (fun c2 => ?_)
    · replace H := H.1 c2
      replace hF := hF.trans (if_pos c2)
      refine And.intro (fun c3 => ?_) (fun c3 => ?_)
      · replace H := H.1 c3
        replace hF := hF.trans (if_pos c3)
        refine And.intro H.1 ?_
        replace H := H.2
        intro M_14 e_M_14
        replace H := H M_14 e_M_14
        replace hF := hF.trans (q_ste e_M_14)
        exact K _ H hF
      · replace H := H.2 c3
        replace hF := hF.trans (if_neg c3)
        refine cS_X2_cubeStep H (fun x_9 M_9 H u => ?_)
        replace hF := hF.trans (q_ste2 u)
        intro M_10 e_M_10
        replace H := H M_10 e_M_10
        replace hF := hF.trans (q_ste e_M_10)
        exact K _ H hF
    · replace H := H.2 c2
      replace hF := hF.trans (if_neg c2)
      intro M_16 e_M_16
      replace H := H M_16 e_M_16
      replace hF := hF.trans (q_ste e_M_16)
      exact K _ H hF
set_option maxRecDepth 100000 in
noncomputable def cF_X2_takeBackHarm (a : Nat) (p1 : Int32) (M : z_Mem) : z_Mem := (if (p1 = (z_fi M 264 a)) then (q_st (z_sfi M 264 a (-1)) (fun (M_3 : z_Mem) => (q_st (z_sfi M_3 257 a ((if ((z_fi M_3 257 a) < (z_fi M_3 260 a)) then (z_fi M_3 260 a) else (z_fi M_3 257 a)) : Int32)) (fun (M_6 : z_Mem) => (q_st (z_sfi M_6 258 a ((if ((z_fi M_6 258 a) < (z_fi M_6 261 a)) then (z_fi M_6 261 a) else (z_fi M_6 258 a)) : Int32)) (fun (M_9 : z_Mem) => M_9)))))) else M)
set_option maxRecDepth 100000 in
theorem cE_X2_takeBackHarm (a : Nat) (p1 : Int32) (M : z_Mem) : cF_X2_takeBackHarm a p1 M = (if (p1 = (z_fi M 264 a)) then (q_st (z_sfi M 264 a (-1)) (fun (M_3 : z_Mem) => (q_st (z_sfi M_3 257 a ((if ((z_fi M_3 257 a) < (z_fi M_3 260 a)) then (z_fi M_3 260 a) else (z_fi M_3 257 a)) : Int32)) (fun (M_6 : z_Mem) => (q_st (z_sfi M_6 258 a ((if ((z_fi M_6 258 a) < (z_fi M_6 261 a)) then (z_fi M_6 261 a) else (z_fi M_6 258 a)) : Int32)) (fun (M_9 : z_Mem) => M_9)))))) else M) := rfl
set_option maxRecDepth 100000 in
set_option maxHeartbeats 4000000 in
theorem cS_X2_takeBackHarm {Q Post : z_Mem → Prop} {a : Nat} {p1 : Int32} {M : z_Mem} (H : P_X2_takeBackHarm a p1 M Q) (K : ∀ M1, Q M1 → cF_X2_takeBackHarm a p1 M = M1 → Post M1) : P_X2_takeBackHarm a p1 M Post := by
  have hF := cE_X2_takeBackHarm a p1 M
  unfold P_X2_takeBackHarm at H ⊢
  refine And.intro (fun c1 => ?_) (fun c1 => ?_)
  · replace H := H.1 c1
    replace hF := hF.trans (if_pos c1)
    intro M_3 e_M_3
    replace H := H M_3 e_M_3
    replace hF := hF.trans (q_ste e_M_3)
    intro M_6 e_M_6
    replace H := H M_6 e_M_6
    replace hF := hF.trans (q_ste e_M_6)
    intro M_9 e_M_9
    replace H := H M_9 e_M_9
    replace hF := hF.trans (q_ste e_M_9)
    exact K _ H hF
  · replace H := H.2 c1
    replace hF := hF.trans (if_neg c1)
    exact K _ H hF
set_option maxRecDepth 100000 in
noncomputable def cF_X1_acknowledge (a : Nat) (p1 : Option Nat) (M : z_Mem) : z_Mem := (q_op p1 M (fun a1 => (q_st2 (cF_X1_routeOf a (z_fi M 769 a1) M) (fun (x_3 : Option Nat) (M_3 : z_Mem) => (if ((z_fi M_3 778 a1) = 0) then (q_st (cF_X1_leaveFlight a p1 1 M_3) (fun (M_36 : z_Mem) => (q_st (Option.getD x_3 0) (fun (a37 : Nat) => (q_st (z_sfi M_36 907 a37 ((z_fi M_36 907 a37) + 1)) (fun (M_39 : z_Mem) => (q_st ((z_fi M_39 907 a37) - (z_fi M_39 781 a1)) (fun (x_42 : Int32) => (q_st (Option.getD (z_fr M_39 128 a) 0) (fun (a45 : Nat) => (q_st (Option.getD (z_fr M_39 128 a) 0) (fun (a48 : Nat) => (q_st (Option.getD (z_fr M_39 897 a37) 0) (fun (a53 : Nat) => (q_st (cF_X2_grow a53 (z_fi M_39 645 a45) x_42 ((z_fi M_39 645 a48) - (z_fi M_39 770 a1)) (z_fi M_39 902 a37) M_39) (fun (M_52 : z_Mem) => (q_st (z_sfi M_52 906 a37 ((if ((z_fi M_52 906 a37) < (z_fi M_52 780 a1)) then (z_fi M_52 780 a1) else (z_fi M_52 906 a37)) : Int32)) (fun (M_56 : z_Mem) => M_56)))))))))))))))))) else (if ((z_fi M_3 778 a1) = 2) then (q_st (z_sfi M_3 778 a1 3) (fun (M_8 : z_Mem) => (q_st (Option.getD x_3 0) (fun (a9 : Nat) => (q_st (z_sfi M_8 912 a9 ((z_fi M_8 912 a9) + 1)) (fun (M_11 : z_Mem) => (if ((z_fi M_11 771 a1) < 0) then (q_st (Option.getD (z_fr M_11 897 a9) 0) (fun (a17 : Nat) => (q_st (cF_X2_takeBackHarm a17 (z_fi M_11 768 a1) M_11) (fun (M_16 : z_Mem) => M_16)))) else (if (4 ≤ (z_fi M_11 771 a1)) then (q_st (Option.getD (z_fr M_11 897 a9) 0) (fun (a23 : Nat) => (q_st (cF_X2_takeBackHarm a23 (z_fi M_11 768 a1) M_11) (fun (M_22 : z_Mem) => M_22)))) else (q_st (Option.getD (z_fr M_11 129 a) 0) (fun (a26 : Nat) => (q_st (Option.getD (z_ar M_11 a26 ((z_fi M_11 771 a1) : Int32).toNatClampNeg) 0) (fun (a31 : Nat) => (q_st (cF_X9_acknowledge a31 (z_fi M_11 772 a1) (z_fi M_11 773 a1) M_11) (fun (M_30 : z_Mem) => (q_st (Option.getD (z_fr M_30 897 a9) 0) (fun (a35 : Nat) => (q_st (cF_X2_takeBackHarm a35 (z_fi M_30 768 a1) M_30) (fun (M_34 : z_Mem) => M_34)))))))))))))))))) else M_3))))))
set_option maxRecDepth 100000 in
theorem cE_X1_acknowledge (a : Nat) (p1 : Option Nat) (M : z_Mem) : cF_X1_acknowledge a p1 M = (q_op p1 M (fun a1 => (q_st2 (cF_X1_routeOf a (z_fi M 769 a1) M) (fun (x_3 : Option Nat) (M_3 : z_Mem) => (if ((z_fi M_3 778 a1) = 0) then (q_st (cF_X1_leaveFlight a p1 1 M_3) (fun (M_36 : z_Mem) => (q_st (Option.getD x_3 0) (fun (a37 : Nat) => (q_st (z_sfi M_36 907 a37 ((z_fi M_36 907 a37) + 1)) (fun (M_39 : z_Mem) => (q_st ((z_fi M_39 907 a37) - (z_fi M_39 781 a1)) (fun (x_42 : Int32) => (q_st (Option.getD (z_fr M_39 128 a) 0) (fun (a45 : Nat) => (q_st (Option.getD (z_fr M_39 128 a) 0) (fun (a48 : Nat) => (q_st (Option.getD (z_fr M_39 897 a37) 0) (fun (a53 : Nat) => (q_st (cF_X2_grow a53 (z_fi M_39 645 a45) x_42 ((z_fi M_39 645 a48) - (z_fi M_39 770 a1)) (z_fi M_39 902 a37) M_39) (fun (M_52 : z_Mem) => (q_st (z_sfi M_52 906 a37 ((if ((z_fi M_52 906 a37) < (z_fi M_52 780 a1)) then (z_fi M_52 780 a1) else (z_fi M_52 906 a37)) : Int32)) (fun (M_56 : z_Mem) => M_56)))))))))))))))))) else (if ((z_fi M_3 778 a1) = 2) then (q_st (z_sfi M_3 778 a1 3) (fun (M_8 : z_Mem) => (q_st (Option.getD x_3 0) (fun (a9 : Nat) => (q_st (z_sfi M_8 912 a9 ((z_fi M_8 912 a9) + 1)) (fun (M_11 : z_Mem) => (if ((z_fi M_11 771 a1) < 0) then (q_st (Option.getD (z_fr M_11 897 a9) 0) (fun (a17 : Nat) => (q_st (cF_X2_takeBackHarm a17 (z_fi M_11 768 a1) M_11) (fun (M_16 : z_Mem) => M_16)))) else (if (4 ≤ (z_fi M_11 771 a1)) then (q_st (Option.getD (z_fr M_11 897 a9) 0) (fun (a23 : Nat) => (q_st (cF_X2_takeBackHarm a23 (z_fi M_11 768 a1) M_11) (fun (M_22 : z_Mem) => M_22)))) else (q_st (Option.getD (z_fr M_11 129 a) 0) (fun (a26 : Nat) => (q_st (Option.getD (z_ar M_11 a26 ((z_fi M_11 771 a1) : Int32).toNatClampNeg) 0) (fun (a31 : Nat) => (q_st (cF_X9_acknowledge a31 (z_fi M_11 772 a1) (z_fi M_11 773 a1) M_11) (fun (M_30 : z_Mem) => (q_st (Option.getD (z_fr M_30 897 a9) 0) (fun (a35 : Nat) => (q_st (cF_X2_takeBackHarm a35 (z_fi M_30 768 a1) M_30) (fun (M_34 : z_Mem) => M_34)))))))))))))))))) else M_3)))))) := rfl
set_option maxRecDepth 100000 in
set_option maxHeartbeats 4000000 in
theorem cS_X1_acknowledge {Q Post : z_Mem → Prop} {a : Nat} {p1 : Option Nat} {M : z_Mem} (H : P_X1_acknowledge a p1 M Q) (K : ∀ M1, Q M1 → cF_X1_acknowledge a p1 M = M1 → Post M1) : P_X1_acknowledge a p1 M Post := by
  have hF := cE_X1_acknowledge a p1 M
  unfold P_X1_acknowledge at H ⊢
  refine And.intro (fun c1 => ?_) (fun a1 c1 => ?_)
  · replace H := H.1 c1
    replace hF := hF.trans (q_opn c1)
    exact K _ H hF
  · replace H := H.2 a1 c1
    replace hF := hF.trans (q_ops c1)
    refine cS_X1_routeOf H (fun x_3 M_3 H u => ?_)
    replace hF := hF.trans (q_ste2 u)
    refine And.intro (fun c2 => ?_) (fun c2 => ?_)
    · replace H := H.1 c2
      replace hF := hF.trans (if_pos c2)
      refine cS_X1_leaveFlight H (fun M_36 H u => ?_)
      replace hF := hF.trans (q_ste u.symm)
      obtain ⟨a37, e_a37, H⟩ := H
      refine z_nn_of e_a37 ?_
      replace hF := hF.trans (q_ste (q_gd e_a37))
      intro M_39 e_M_39
      replace H := H M_39 e_M_39
      replace hF := hF.trans (q_ste e_M_39)
      intro x_42 e_x_42
      replace H := H x_42 e_x_42
      replace hF := hF.trans (q_ste e_x_42)
      obtain ⟨a45, e_a45, H⟩ := H
      refine z_nn_of e_a45 ?_
      replace hF := hF.trans (q_ste (q_gd e_a45))
      obtain ⟨a48, e_a48, H⟩ := H
      refine z_nn_of e_a48 ?_
      replace hF := hF.trans (q_ste (q_gd e_a48))
      obtain ⟨a53, e_a53, H⟩ := H
      refine z_nn_of e_a53 ?_
      replace hF := hF.trans (q_ste (q_gd e_a53))
      refine cS_X2_grow H (fun M_52 H u => ?_)
      replace hF := hF.trans (q_ste u.symm)
      intro M_56 e_M_56
      replace H := H M_56 e_M_56
      replace hF := hF.trans (q_ste e_M_56)
      exact K _ H hF
    · replace H := H.2 c2
      replace hF := hF.trans (if_neg c2)
      refine And.intro (fun c3 => ?_) (fun c3 => ?_)
      · replace H := H.1 c3
        replace hF := hF.trans (if_pos c3)
        intro M_8 e_M_8
        replace H := H M_8 e_M_8
        replace hF := hF.trans (q_ste e_M_8)
        obtain ⟨a9, e_a9, H⟩ := H
        refine z_nn_of e_a9 ?_
        replace hF := hF.trans (q_ste (q_gd e_a9))
        intro M_11 e_M_11
        replace H := H M_11 e_M_11
        replace hF := hF.trans (q_ste e_M_11)
        refine And.intro (fun c4 => ?_) (fun c4 => ?_)
        · replace H := H.1 c4
          replace hF := hF.trans (if_pos c4)
          obtain ⟨a17, e_a17, H⟩ := H
          refine z_nn_of e_a17 ?_
          replace hF := hF.trans (q_ste (q_gd e_a17))
          refine cS_X2_takeBackHarm H (fun M_16 H u => ?_)
          replace hF := hF.trans (q_ste u.symm)
          exact K _ H hF
        · replace H := H.2 c4
          replace hF := hF.trans (if_neg c4)
          refine And.intro (fun c5 => ?_) (fun c5 => ?_)
          · replace H := H.1 c5
            replace hF := hF.trans (if_pos c5)
            obtain ⟨a23, e_a23, H⟩ := H
            refine z_nn_of e_a23 ?_
            replace hF := hF.trans (q_ste (q_gd e_a23))
            refine cS_X2_takeBackHarm H (fun M_22 H u => ?_)
            replace hF := hF.trans (q_ste u.symm)
            exact K _ H hF
          · replace H := H.2 c5
            replace hF := hF.trans (if_neg c5)
            obtain ⟨a26, e_a26, H⟩ := H
            refine z_nn_of e_a26 ?_
            replace hF := hF.trans (q_ste (q_gd e_a26))
            refine And.intro H.1 ?_
            replace H := H.2
            obtain ⟨a31, e_a31, H⟩ := H
            refine z_nn_of e_a31 ?_
            replace hF := hF.trans (q_ste (q_gd e_a31))
            refine cS_X9_acknowledge H (fun M_30 H u => ?_)
            replace hF := hF.trans (q_ste u.symm)
            obtain ⟨a35, e_a35, H⟩ := H
            refine z_nn_of e_a35 ?_
            replace hF := hF.trans (q_ste (q_gd e_a35))
            refine cS_X2_takeBackHarm H (fun M_34 H u => ?_)
            replace hF := hF.trans (q_ste u.symm)
            exact K _ H hF
      · replace H := H.2 c3
        replace hF := hF.trans (if_neg c3)
        exact K _ H hF
set_option maxRecDepth 100000 in
noncomputable def cF_X2_harm (a : Nat) (p1 : Int32) (p2 : Int32) (p3 : Int32) (p4 : Int32) (M : z_Mem) : z_Mem := (if ((z_fi M 263 a) ≤ p1) then (q_st (z_sfi M 259 a ((z_fi M 259 a) + 1)) (fun (M_4 : z_Mem) => (q_st (z_sfi M_4 260 a (z_fi M_4 257 a)) (fun (M_6 : z_Mem) => (q_st (z_sfi M_6 261 a (z_fi M_6 258 a)) (fun (M_8 : z_Mem) => (q_st (z_sfi M_8 262 a p4) (fun (M_9 : z_Mem) => (q_st (z_sfi M_9 263 a p3) (fun (M_10 : z_Mem) => (q_st (z_sfi M_10 264 a p2) (fun (M_11 : z_Mem) => (if ((z_fi M_11 256 a) = 2) then M_11 else (if ((z_fi M_11 256 a) = 1) then (q_st (z_sfi M_11 257 a ((if (32 < (((z_fi M_11 257 a) * 7) / 10)) then (((z_fi M_11 257 a) * 7) / 10) else 32) : Int32)) (fun (M_21 : z_Mem) => (q_st (z_sfi M_21 258 a (z_fi M_21 257 a)) (fun (M_23 : z_Mem) => M_23)))) else (q_st (z_sfi M_11 257 a ((if (32 < ((z_fi M_11 257 a) / 2)) then ((z_fi M_11 257 a) / 2) else 32) : Int32)) (fun (M_17 : z_Mem) => (q_st (z_sfi M_17 258 a (z_fi M_17 257 a)) (fun (M_19 : z_Mem) => M_19)))))))))))))))))) else M)
set_option maxRecDepth 100000 in
theorem cE_X2_harm (a : Nat) (p1 : Int32) (p2 : Int32) (p3 : Int32) (p4 : Int32) (M : z_Mem) : cF_X2_harm a p1 p2 p3 p4 M = (if ((z_fi M 263 a) ≤ p1) then (q_st (z_sfi M 259 a ((z_fi M 259 a) + 1)) (fun (M_4 : z_Mem) => (q_st (z_sfi M_4 260 a (z_fi M_4 257 a)) (fun (M_6 : z_Mem) => (q_st (z_sfi M_6 261 a (z_fi M_6 258 a)) (fun (M_8 : z_Mem) => (q_st (z_sfi M_8 262 a p4) (fun (M_9 : z_Mem) => (q_st (z_sfi M_9 263 a p3) (fun (M_10 : z_Mem) => (q_st (z_sfi M_10 264 a p2) (fun (M_11 : z_Mem) => (if ((z_fi M_11 256 a) = 2) then M_11 else (if ((z_fi M_11 256 a) = 1) then (q_st (z_sfi M_11 257 a ((if (32 < (((z_fi M_11 257 a) * 7) / 10)) then (((z_fi M_11 257 a) * 7) / 10) else 32) : Int32)) (fun (M_21 : z_Mem) => (q_st (z_sfi M_21 258 a (z_fi M_21 257 a)) (fun (M_23 : z_Mem) => M_23)))) else (q_st (z_sfi M_11 257 a ((if (32 < ((z_fi M_11 257 a) / 2)) then ((z_fi M_11 257 a) / 2) else 32) : Int32)) (fun (M_17 : z_Mem) => (q_st (z_sfi M_17 258 a (z_fi M_17 257 a)) (fun (M_19 : z_Mem) => M_19)))))))))))))))))) else M) := rfl
set_option maxRecDepth 100000 in
set_option maxHeartbeats 4000000 in
theorem cS_X2_harm {Q Post : z_Mem → Prop} {a : Nat} {p1 : Int32} {p2 : Int32} {p3 : Int32} {p4 : Int32} {M : z_Mem} (H : P_X2_harm a p1 p2 p3 p4 M Q) (K : ∀ M1, Q M1 → cF_X2_harm a p1 p2 p3 p4 M = M1 → Post M1) : P_X2_harm a p1 p2 p3 p4 M Post := by
  have hF := cE_X2_harm a p1 p2 p3 p4 M
  unfold P_X2_harm at H ⊢
  refine And.intro (fun c1 => ?_) (fun c1 => ?_)
  · replace H := H.1 c1
    replace hF := hF.trans (if_pos c1)
    intro M_4 e_M_4
    replace H := H M_4 e_M_4
    replace hF := hF.trans (q_ste e_M_4)
    intro M_6 e_M_6
    replace H := H M_6 e_M_6
    replace hF := hF.trans (q_ste e_M_6)
    intro M_8 e_M_8
    replace H := H M_8 e_M_8
    replace hF := hF.trans (q_ste e_M_8)
    intro M_9 e_M_9
    replace H := H M_9 e_M_9
    replace hF := hF.trans (q_ste e_M_9)
    intro M_10 e_M_10
    replace H := H M_10 e_M_10
    replace hF := hF.trans (q_ste e_M_10)
    intro M_11 e_M_11
    replace H := H M_11 e_M_11
    replace hF := hF.trans (q_ste e_M_11)
    refine And.intro (fun c2 => ?_) (fun c2 => ?_)
    · replace H := H.1 c2
      replace hF := hF.trans (if_pos c2)
      exact K _ H hF
    · replace H := H.2 c2
      replace hF := hF.trans (if_neg c2)
      refine And.intro (fun c3 => ?_) (fun c3 => ?_)
      · replace H := H.1 c3
        replace hF := hF.trans (if_pos c3)
        intro M_21 e_M_21
        replace H := H M_21 e_M_21
        replace hF := hF.trans (q_ste e_M_21)
        intro M_23 e_M_23
        replace H := H M_23 e_M_23
        replace hF := hF.trans (q_ste e_M_23)
        exact K _ H hF
      · replace H := H.2 c3
        replace hF := hF.trans (if_neg c3)
        intro M_17 e_M_17
        replace H := H M_17 e_M_17
        replace hF := hF.trans (q_ste e_M_17)
        intro M_19 e_M_19
        replace H := H M_19 e_M_19
        replace hF := hF.trans (q_ste e_M_19)
        exact K _ H hF
  · replace H := H.2 c1
    replace hF := hF.trans (if_neg c1)
    exact K _ H hF
set_option maxRecDepth 100000 in
noncomputable def cF_X1_hearOfGreatest_31 (a : Nat) (x1 : Option Nat) (x3 : Int32) (x4 : Option Nat) (M : z_Mem) : z_Mem := (if (x3 ≤ (z_fi M 146 a)) then M else (q_st (z_sfi M 146 a x3) (fun (M_3 : z_Mem) => (q_st (Option.getD x4 0) (fun (a4 : Nat) => (q_st (Option.getD x1 0) (fun (a6 : Nat) => (q_st (Option.getD (z_fr M_3 128 a) 0) (fun (a10 : Nat) => (q_st (Option.getD (z_fr M_3 897 a4) 0) (fun (a13 : Nat) => (q_st (cF_X2_harm a13 (z_fi M_3 768 a6) (-1) (z_fi M_3 133 a) (z_fi M_3 645 a10) M_3) (fun (M_12 : z_Mem) => M_12)))))))))))))
set_option maxRecDepth 100000 in
theorem cE_X1_hearOfGreatest_31 (a : Nat) (x1 : Option Nat) (x3 : Int32) (x4 : Option Nat) (M : z_Mem) : cF_X1_hearOfGreatest_31 a x1 x3 x4 M = (if (x3 ≤ (z_fi M 146 a)) then M else (q_st (z_sfi M 146 a x3) (fun (M_3 : z_Mem) => (q_st (Option.getD x4 0) (fun (a4 : Nat) => (q_st (Option.getD x1 0) (fun (a6 : Nat) => (q_st (Option.getD (z_fr M_3 128 a) 0) (fun (a10 : Nat) => (q_st (Option.getD (z_fr M_3 897 a4) 0) (fun (a13 : Nat) => (q_st (cF_X2_harm a13 (z_fi M_3 768 a6) (-1) (z_fi M_3 133 a) (z_fi M_3 645 a10) M_3) (fun (M_12 : z_Mem) => M_12))))))))))))) := rfl
set_option maxRecDepth 100000 in
set_option maxHeartbeats 4000000 in
theorem cS_X1_hearOfGreatest_31 {Q Post : z_Mem → Prop} {a : Nat} {x1 : Option Nat} {x3 : Int32} {x4 : Option Nat} {M : z_Mem} (H : P_X1_hearOfGreatest_31 a Q x1 x3 x4 M) (K : ∀ M1, Q M1 → cF_X1_hearOfGreatest_31 a x1 x3 x4 M = M1 → Post M1) : P_X1_hearOfGreatest_31 a Post x1 x3 x4 M := by
  have hF := cE_X1_hearOfGreatest_31 a x1 x3 x4 M
  unfold P_X1_hearOfGreatest_31 at H ⊢
  refine And.intro (fun c1 => ?_) (fun c1 => ?_)
  · replace H := H.1 c1
    replace hF := hF.trans (if_pos c1)
    exact K _ H hF
  · replace H := H.2 c1
    replace hF := hF.trans (if_neg c1)
    intro M_3 e_M_3
    replace H := H M_3 e_M_3
    replace hF := hF.trans (q_ste e_M_3)
    obtain ⟨a4, e_a4, H⟩ := H
    refine z_nn_of e_a4 ?_
    replace hF := hF.trans (q_ste (q_gd e_a4))
    obtain ⟨a6, e_a6, H⟩ := H
    refine z_nn_of e_a6 ?_
    replace hF := hF.trans (q_ste (q_gd e_a6))
    obtain ⟨a10, e_a10, H⟩ := H
    refine z_nn_of e_a10 ?_
    replace hF := hF.trans (q_ste (q_gd e_a10))
    obtain ⟨a13, e_a13, H⟩ := H
    refine z_nn_of e_a13 ?_
    replace hF := hF.trans (q_ste (q_gd e_a13))
    refine cS_X2_harm H (fun M_12 H u => ?_)
    replace hF := hF.trans (q_ste u.symm)
    exact K _ H hF
set_option maxRecDepth 100000 in
noncomputable def cF_X1_hearOfGreatest (a : Nat) (p1 : Option Nat) (p2 : Int32) (p3 : Int32) (M : z_Mem) : z_Mem := (q_st (Option.getD p1 0) (fun (a14 : Nat) => (q_st2 (cF_X1_routeOf a (z_fi M 769 a14) M) (fun (x_16 : Option Nat) (M_16 : z_Mem) => (if (p2 = 0) then (cF_X1_hearOfGreatest_31 a p1 p3 x_16 M_16) else (q_st (Option.getD (z_fr M_16 128 a) 0) (fun (a19 : Nat) => (q_st (Option.getD x_16 0) (fun (a23 : Nat) => (q_st (cF_X7_measure a23 ((z_fi M_16 645 a19) - (z_fi M_16 770 a14)) M_16) (fun (M_22 : z_Mem) => (cF_X1_hearOfGreatest_31 a p1 p3 x_16 M_22))))))))))))
set_option maxRecDepth 100000 in
theorem cE_X1_hearOfGreatest (a : Nat) (p1 : Option Nat) (p2 : Int32) (p3 : Int32) (M : z_Mem) : cF_X1_hearOfGreatest a p1 p2 p3 M = (q_st (Option.getD p1 0) (fun (a14 : Nat) => (q_st2 (cF_X1_routeOf a (z_fi M 769 a14) M) (fun (x_16 : Option Nat) (M_16 : z_Mem) => (if (p2 = 0) then (cF_X1_hearOfGreatest_31 a p1 p3 x_16 M_16) else (q_st (Option.getD (z_fr M_16 128 a) 0) (fun (a19 : Nat) => (q_st (Option.getD x_16 0) (fun (a23 : Nat) => (q_st (cF_X7_measure a23 ((z_fi M_16 645 a19) - (z_fi M_16 770 a14)) M_16) (fun (M_22 : z_Mem) => (cF_X1_hearOfGreatest_31 a p1 p3 x_16 M_22)))))))))))) := rfl
set_option maxRecDepth 100000 in
set_option maxHeartbeats 4000000 in
theorem cS_X1_hearOfGreatest {Q Post : z_Mem → Prop} {a : Nat} {p1 : Option Nat} {p2 : Int32} {p3 : Int32} {M : z_Mem} (H : P_X1_hearOfGreatest a p1 p2 p3 M Q) (K : ∀ M1, Q M1 → cF_X1_hearOfGreatest a p1 p2 p3 M = M1 → Post M1) : P_X1_hearOfGreatest a p1 p2 p3 M Post := by
  have hF := cE_X1_hearOfGreatest a p1 p2 p3 M
  unfold P_X1_hearOfGreatest at H ⊢
  obtain ⟨a14, e_a14, H⟩ := H
  refine z_nn_of e_a14 ?_
  replace hF := hF.trans (q_ste (q_gd e_a14))
  refine cS_X1_routeOf H (fun x_16 M_16 H u => ?_)
  replace hF := hF.trans (q_ste2 u)
  refine And.intro (fun c1 => ?_) (fun c1 => ?_)
  · replace H := H.1 c1
    replace hF := hF.trans (if_pos c1)
    exact cS_X1_hearOfGreatest_31 H (fun M1 q u => K M1 q (hF.trans u))
  · replace H := H.2 c1
    replace hF := hF.trans (if_neg c1)
    obtain ⟨a19, e_a19, H⟩ := H
    refine z_nn_of e_a19 ?_
    replace hF := hF.trans (q_ste (q_gd e_a19))
    obtain ⟨a23, e_a23, H⟩ := H
    refine z_nn_of e_a23 ?_
    replace hF := hF.trans (q_ste (q_gd e_a23))
    refine cS_X7_measure H (fun M_22 H u => ?_)
    replace hF := hF.trans (q_ste u.symm)
    exact cS_X1_hearOfGreatest_31 H (fun M1 q u => K M1 q (hF.trans u))
set_option maxRecDepth 100000 in
noncomputable def cB_X1_takeCredits_2 (a : Nat) (x1 : Option Nat) (x2 : Int32) (M : z_Mem) : (Option Nat × Int32 × z_Mem) ⊕ z_Mem := (if (4 ≤ x2) then (q_st (Option.getD x1 0) (fun (a3 : Nat) => (q_st (z_sfi M 144 a ((if ((z_fi M 144 a) < (z_fi M 5 a3)) then (z_fi M 5 a3) else (z_fi M 144 a)) : Int32)) (fun (M_5 : z_Mem) => (.inr M_5))))) else (q_st (Option.getD (z_fr M 129 a) 0) (fun (a7 : Nat) => (q_st (Option.getD (z_fr M 129 a) 0) (fun (a10 : Nat) => (q_st (Option.getD (z_ar M a10 (x2 : Int32).toNatClampNeg) 0) (fun (a12 : Nat) => (q_st (Option.getD x1 0) (fun (a14 : Nat) => (q_st (Option.getD (z_fr M 2 a14) 0) (fun (a16 : Nat) => (q_st (Option.getD (z_ar M a7 (x2 : Int32).toNatClampNeg) 0) (fun (a18 : Nat) => (q_st (z_sfi M 1156 a18 ((if ((z_fi M 1156 a12) < (z_ai M a16 (x2 : Int32).toNatClampNeg)) then (z_ai M a16 (x2 : Int32).toNatClampNeg) else (z_fi M 1156 a12)) : Int32)) (fun (M_19 : z_Mem) => (q_st (x2 + 1) (fun (x_20 : Int32) => (.inl (x1, x_20, M_19)))))))))))))))))))
set_option maxRecDepth 100000 in
noncomputable def cF_X1_takeCredits_2 (a : Nat) (x1 : Option Nat) (x2 : Int32) (M : z_Mem) : z_Mem := q_lp (X := (Option Nat × Int32 × z_Mem)) (Y := z_Mem) M (fun t => cB_X1_takeCredits_2 a t.1 t.2.1 t.2.2) (x1, x2, M)
set_option maxRecDepth 100000 in
theorem cUl_X1_takeCredits_2 {a : Nat} {x1 : Option Nat} {x2 : Int32} {M : z_Mem} {y_x1 : Option Nat} {y_x2 : Int32} {M1 : z_Mem} (h : cB_X1_takeCredits_2 a x1 x2 M = .inl (y_x1, y_x2, M1)) : cF_X1_takeCredits_2 a x1 x2 M = cF_X1_takeCredits_2 a y_x1 y_x2 M1 := q_lpl (step := fun t => cB_X1_takeCredits_2 a t.1 t.2.1 t.2.2) h
set_option maxRecDepth 100000 in
theorem cUr_X1_takeCredits_2 {a : Nat} {x1 : Option Nat} {x2 : Int32} {M : z_Mem} {y : z_Mem} (h : cB_X1_takeCredits_2 a x1 x2 M = .inr y) : cF_X1_takeCredits_2 a x1 x2 M = y := q_lpr (step := fun t => cB_X1_takeCredits_2 a t.1 t.2.1 t.2.2) h
set_option maxRecDepth 100000 in
theorem cE_X1_takeCredits_2 (a : Nat) (x1 : Option Nat) (x2 : Int32) (M : z_Mem) : cB_X1_takeCredits_2 a x1 x2 M = (if (4 ≤ x2) then (q_st (Option.getD x1 0) (fun (a3 : Nat) => (q_st (z_sfi M 144 a ((if ((z_fi M 144 a) < (z_fi M 5 a3)) then (z_fi M 5 a3) else (z_fi M 144 a)) : Int32)) (fun (M_5 : z_Mem) => (.inr M_5))))) else (q_st (Option.getD (z_fr M 129 a) 0) (fun (a7 : Nat) => (q_st (Option.getD (z_fr M 129 a) 0) (fun (a10 : Nat) => (q_st (Option.getD (z_ar M a10 (x2 : Int32).toNatClampNeg) 0) (fun (a12 : Nat) => (q_st (Option.getD x1 0) (fun (a14 : Nat) => (q_st (Option.getD (z_fr M 2 a14) 0) (fun (a16 : Nat) => (q_st (Option.getD (z_ar M a7 (x2 : Int32).toNatClampNeg) 0) (fun (a18 : Nat) => (q_st (z_sfi M 1156 a18 ((if ((z_fi M 1156 a12) < (z_ai M a16 (x2 : Int32).toNatClampNeg)) then (z_ai M a16 (x2 : Int32).toNatClampNeg) else (z_fi M 1156 a12)) : Int32)) (fun (M_19 : z_Mem) => (q_st (x2 + 1) (fun (x_20 : Int32) => (.inl (x1, x_20, M_19))))))))))))))))))) := rfl
set_option maxRecDepth 100000 in
set_option maxHeartbeats 4000000 in
theorem cS_X1_takeCredits_2 {Q Post : z_Mem → Prop} {a : Nat} : ∀ (m : Nat) {x1 : Option Nat} {x2 : Int32} {M : z_Mem} (H : P_X1_takeCredits_2 a Q m x1 x2 M) (K : ∀ M1, Q M1 → cF_X1_takeCredits_2 a x1 x2 M = M1 → Post M1), P_X1_takeCredits_2 a Post m x1 x2 M := by
  intro m
  induction m with
  | zero => intros; rename_i H _; exact False.elim H
  | succ m ih =>
    intro x1 x2 M H K
    have hF := cE_X1_takeCredits_2 a x1 x2 M
    unfold P_X1_takeCredits_2 at H ⊢
    refine And.intro (fun c1 => ?_) (fun c1 => ?_)
    · replace H := H.1 c1
      replace hF := hF.trans (if_pos c1)
      obtain ⟨a3, e_a3, H⟩ := H
      refine z_nn_of e_a3 ?_
      replace hF := hF.trans (q_ste (q_gd e_a3))
      intro M_5 e_M_5
      replace H := H M_5 e_M_5
      replace hF := hF.trans (q_ste e_M_5)
      exact K _ H (cUr_X1_takeCredits_2 hF)
    · replace H := H.2 c1
      replace hF := hF.trans (if_neg c1)
      obtain ⟨a7, e_a7, H⟩ := H
      refine z_nn_of e_a7 ?_
      replace hF := hF.trans (q_ste (q_gd e_a7))
      refine And.intro H.1 ?_
      replace H := H.2
      obtain ⟨a10, e_a10, H⟩ := H
      refine z_nn_of e_a10 ?_
      replace hF := hF.trans (q_ste (q_gd e_a10))
      refine And.intro H.1 ?_
      replace H := H.2
      obtain ⟨a12, e_a12, H⟩ := H
      refine z_nn_of e_a12 ?_
      replace hF := hF.trans (q_ste (q_gd e_a12))
      obtain ⟨a14, e_a14, H⟩ := H
      refine z_nn_of e_a14 ?_
      replace hF := hF.trans (q_ste (q_gd e_a14))
      obtain ⟨a16, e_a16, H⟩ := H
      refine z_nn_of e_a16 ?_
      replace hF := hF.trans (q_ste (q_gd e_a16))
      refine And.intro H.1 ?_
      replace H := H.2
      obtain ⟨a18, e_a18, H⟩ := H
      refine z_nn_of e_a18 ?_
      replace hF := hF.trans (q_ste (q_gd e_a18))
      intro M_19 e_M_19
      replace H := H M_19 e_M_19
      replace hF := hF.trans (q_ste e_M_19)
      intro x_20 e_x_20
      replace H := H x_20 e_x_20
      replace hF := hF.trans (q_ste e_x_20)
      replace hF := cUl_X1_takeCredits_2 hF
      exact ih H (fun M1 q u => K M1 q (hF.trans u))
set_option maxRecDepth 100000 in
noncomputable def cF_X1_takeCredits (a : Nat) (p1 : Option Nat) (M : z_Mem) : z_Mem := (cF_X1_takeCredits_2 a p1 0 M)
set_option maxRecDepth 100000 in
theorem cE_X1_takeCredits (a : Nat) (p1 : Option Nat) (M : z_Mem) : cF_X1_takeCredits a p1 M = (cF_X1_takeCredits_2 a p1 0 M) := rfl
set_option maxRecDepth 100000 in
set_option maxHeartbeats 4000000 in
theorem cS_X1_takeCredits {Q Post : z_Mem → Prop} {a : Nat} {p1 : Option Nat} {M : z_Mem} (H : P_X1_takeCredits a p1 M Q) (K : ∀ M1, Q M1 → cF_X1_takeCredits a p1 M = M1 → Post M1) : P_X1_takeCredits a p1 M Post := by
  have hF := cE_X1_takeCredits a p1 M
  unfold P_X1_takeCredits at H ⊢
  obtain ⟨m, H⟩ := H
  refine ⟨m, ?_⟩
  exact cS_X1_takeCredits_2 m H (fun M1 q u => K M1 q (hF.trans u))
set_option maxRecDepth 100000 in
noncomputable def cF_X1_lowestInFlight_108 (a : Nat) (x1 : Option Nat) (x3 : Int32) (M : z_Mem) : ((Option Nat × Int32 × z_Mem) ⊕ (Option Nat × z_Mem)) := (q_st (x3 + 1) (fun (x_1 : Int32) => (.inl (x1, x_1, M))))
set_option maxRecDepth 100000 in
theorem cE_X1_lowestInFlight_108 (a : Nat) (x1 : Option Nat) (x3 : Int32) (M : z_Mem) : cF_X1_lowestInFlight_108 a x1 x3 M = (q_st (x3 + 1) (fun (x_1 : Int32) => (.inl (x1, x_1, M)))) := rfl
set_option maxRecDepth 100000 in
set_option maxHeartbeats 4000000 in
theorem cS_X1_lowestInFlight_108 {Q Post : Option Nat → z_Mem → Prop} {a : Nat} {x1 : Option Nat} {x3 : Int32} {QJ58 PJ58 : Option Nat → Int32 → z_Mem → Prop} {M : z_Mem} (H : P_X1_lowestInFlight_108 a Q QJ58 x1 x3 M) (K : ∀ x M1, Q x M1 → cF_X1_lowestInFlight_108 a x1 x3 M = (.inr (x, M1)) → Post x M1) (KJ58 : ∀ v0 v1 M1, QJ58 v0 v1 M1 → cF_X1_lowestInFlight_108 a x1 x3 M = (.inl (v0, v1, M1)) → PJ58 v0 v1 M1) : P_X1_lowestInFlight_108 a Post PJ58 x1 x3 M := by
  have hF := cE_X1_lowestInFlight_108 a x1 x3 M
  unfold P_X1_lowestInFlight_108 at H ⊢
  intro x_1 e_x_1
  replace H := H x_1 e_x_1
  replace hF := hF.trans (q_ste e_x_1)
  exact KJ58 _ _ _ H hF
set_option maxRecDepth 100000 in
noncomputable def cB_X1_lowestInFlight_58 (a : Nat) (x1 : Option Nat) (x3 : Int32) (M : z_Mem) : (Option Nat × Int32 × z_Mem) ⊕ (Option Nat × z_Mem) := (if ((z_fi M 133 a) ≤ x3) then (.inr (none, M)) else (q_st (Option.getD x1 0) (fun (a4 : Nat) => (if ((z_fi M 899 a4) ≤ 0) then (.inr (none, M)) else (q_st2 (cF_X1_packetAt a x3 M) (fun (x_7 : Option Nat) (M_7 : z_Mem) => (q_op x_7 (cF_X1_lowestInFlight_108 a x1 x3 M_7) (fun a8 => (if ((z_fi M_7 769 a8) = (z_fi M_7 896 a4)) then (if ((z_fi M_7 778 a8) = 0) then (.inr (x_7, M_7)) else (cF_X1_lowestInFlight_108 a x1 x3 M_7)) else (cF_X1_lowestInFlight_108 a x1 x3 M_7))))))))))
set_option maxRecDepth 100000 in
noncomputable def cF_X1_lowestInFlight_58 (a : Nat) (x1 : Option Nat) (x3 : Int32) (M : z_Mem) : (Option Nat × z_Mem) := q_lp (X := (Option Nat × Int32 × z_Mem)) (Y := (Option Nat × z_Mem)) ((none : Option Nat), M) (fun t => cB_X1_lowestInFlight_58 a t.1 t.2.1 t.2.2) (x1, x3, M)
set_option maxRecDepth 100000 in
theorem cUl_X1_lowestInFlight_58 {a : Nat} {x1 : Option Nat} {x3 : Int32} {M : z_Mem} {y_x1 : Option Nat} {y_x3 : Int32} {M1 : z_Mem} (h : cB_X1_lowestInFlight_58 a x1 x3 M = .inl (y_x1, y_x3, M1)) : cF_X1_lowestInFlight_58 a x1 x3 M = cF_X1_lowestInFlight_58 a y_x1 y_x3 M1 := q_lpl (step := fun t => cB_X1_lowestInFlight_58 a t.1 t.2.1 t.2.2) h
set_option maxRecDepth 100000 in
theorem cUr_X1_lowestInFlight_58 {a : Nat} {x1 : Option Nat} {x3 : Int32} {M : z_Mem} {y : (Option Nat × z_Mem)} (h : cB_X1_lowestInFlight_58 a x1 x3 M = .inr y) : cF_X1_lowestInFlight_58 a x1 x3 M = y := q_lpr (step := fun t => cB_X1_lowestInFlight_58 a t.1 t.2.1 t.2.2) h
set_option maxRecDepth 100000 in
theorem cE_X1_lowestInFlight_58 (a : Nat) (x1 : Option Nat) (x3 : Int32) (M : z_Mem) : cB_X1_lowestInFlight_58 a x1 x3 M = (if ((z_fi M 133 a) ≤ x3) then (.inr (none, M)) else (q_st (Option.getD x1 0) (fun (a4 : Nat) => (if ((z_fi M 899 a4) ≤ 0) then (.inr (none, M)) else (q_st2 (cF_X1_packetAt a x3 M) (fun (x_7 : Option Nat) (M_7 : z_Mem) => (q_op x_7 (cF_X1_lowestInFlight_108 a x1 x3 M_7) (fun a8 => (if ((z_fi M_7 769 a8) = (z_fi M_7 896 a4)) then (if ((z_fi M_7 778 a8) = 0) then (.inr (x_7, M_7)) else (cF_X1_lowestInFlight_108 a x1 x3 M_7)) else (cF_X1_lowestInFlight_108 a x1 x3 M_7)))))))))) := rfl
set_option maxRecDepth 100000 in
set_option maxHeartbeats 4000000 in
theorem cS_X1_lowestInFlight_58 {Q Post : Option Nat → z_Mem → Prop} {a : Nat} : ∀ (m : Nat) {x1 : Option Nat} {x3 : Int32} {M : z_Mem} (H : P_X1_lowestInFlight_58 a Q m x1 x3 M) (K : ∀ x M1, Q x M1 → cF_X1_lowestInFlight_58 a x1 x3 M = (x, M1) → Post x M1), P_X1_lowestInFlight_58 a Post m x1 x3 M := by
  intro m
  induction m with
  | zero => intros; rename_i H _; exact False.elim H
  | succ m ih =>
    intro x1 x3 M H K
    have hF := cE_X1_lowestInFlight_58 a x1 x3 M
    unfold P_X1_lowestInFlight_58 at H ⊢
    refine And.intro (fun c1 => ?_) (fun c1 => ?_)
    · replace H := H.1 c1
      replace hF := hF.trans (if_pos c1)
      exact K _ _ H (cUr_X1_lowestInFlight_58 hF)
    · replace H := H.2 c1
      replace hF := hF.trans (if_neg c1)
      obtain ⟨a4, e_a4, H⟩ := H
      refine z_nn_of e_a4 ?_
      replace hF := hF.trans (q_ste (q_gd e_a4))
      refine And.intro (fun c2 => ?_) (fun c2 => ?_)
      · replace H := H.1 c2
        replace hF := hF.trans (if_pos c2)
        exact K _ _ H (cUr_X1_lowestInFlight_58 hF)
      · replace H := H.2 c2
        replace hF := hF.trans (if_neg c2)
        refine cS_X1_packetAt H (fun x_7 M_7 H u => ?_)
        replace hF := hF.trans (q_ste2 u)
        refine And.intro (fun c3 => ?_) (fun a8 c3 => ?_)
        · replace H := H.1 c3
          replace hF := hF.trans (q_opn c3)
          exact cS_X1_lowestInFlight_108 H (fun x M1 q u => K x M1 q (cUr_X1_lowestInFlight_58 (hF.trans u))) (fun v0 v1 M1 q u => ih q (fun x M1 q u2 => K x M1 q ((cUl_X1_lowestInFlight_58 (hF.trans u)).trans u2))) 
        · replace H := H.2 a8 c3
          replace hF := hF.trans (q_ops c3)
          refine And.intro (fun c4 => ?_) (fun c4 => ?_)
          · replace H := H.1 c4
            replace hF := hF.trans (if_pos c4)
            refine And.intro (fun c5 => ?_) (fun c5 => ?_)
            · replace H := H.1 c5
              replace hF := hF.trans (if_pos c5)
              exact K _ _ H (cUr_X1_lowestInFlight_58 hF)
            · replace H := H.2 c5
              replace hF := hF.trans (if_neg c5)
              exact cS_X1_lowestInFlight_108 H (fun x M1 q u => K x M1 q (cUr_X1_lowestInFlight_58 (hF.trans u))) (fun v0 v1 M1 q u => ih q (fun x M1 q u2 => K x M1 q ((cUl_X1_lowestInFlight_58 (hF.trans u)).trans u2))) 
          · replace H := H.2 c4
            replace hF := hF.trans (if_neg c4)
            exact cS_X1_lowestInFlight_108 H (fun x M1 q u => K x M1 q (cUr_X1_lowestInFlight_58 (hF.trans u))) (fun v0 v1 M1 q u => ih q (fun x M1 q u2 => K x M1 q ((cUl_X1_lowestInFlight_58 (hF.trans u)).trans u2))) 
set_option maxRecDepth 100000 in
noncomputable def cF_X1_lowestInFlight_53 (a : Nat) (x1 : Option Nat) (M : z_Mem) : (Option Nat × z_Mem) := (q_st (z_fi M 134 a) (fun (x_15 : Int32) => (cF_X1_lowestInFlight_58 a x1 x_15 M)))
set_option maxRecDepth 100000 in
theorem cE_X1_lowestInFlight_53 (a : Nat) (x1 : Option Nat) (M : z_Mem) : cF_X1_lowestInFlight_53 a x1 M = (q_st (z_fi M 134 a) (fun (x_15 : Int32) => (cF_X1_lowestInFlight_58 a x1 x_15 M))) := rfl
set_option maxRecDepth 100000 in
set_option maxHeartbeats 4000000 in
theorem cS_X1_lowestInFlight_53 {Q Post : Option Nat → z_Mem → Prop} {a : Nat} {x1 : Option Nat} {M : z_Mem} (H : P_X1_lowestInFlight_53 a Q x1 M) (K : ∀ x M1, Q x M1 → cF_X1_lowestInFlight_53 a x1 M = (x, M1) → Post x M1) : P_X1_lowestInFlight_53 a Post x1 M := by
  have hF := cE_X1_lowestInFlight_53 a x1 M
  unfold P_X1_lowestInFlight_53 at H ⊢
  intro x_15 e_x_15
  replace H := H x_15 e_x_15
  replace hF := hF.trans (q_ste e_x_15)
  obtain ⟨m, H⟩ := H
  refine ⟨m, ?_⟩
  exact cS_X1_lowestInFlight_58 m H (fun x M1 q u => K x M1 q (hF.trans u))
set_option maxRecDepth 100000 in
noncomputable def cB_X1_lowestInFlight_9 (a : Nat) (x1 : Option Nat) (x2 : Option Nat) (M : z_Mem) : (Option Nat × Option Nat × z_Mem) ⊕ (Option Nat × z_Mem) := (if ((z_fi M 133 a) ≤ (z_fi M 134 a)) then (.inr (cF_X1_lowestInFlight_53 a x1 M)) else (q_op x2 (.inr (cF_X1_lowestInFlight_53 a x1 M)) (fun a20 => (if ((z_fi M 778 a20) = 0) then (.inr (cF_X1_lowestInFlight_53 a x1 M)) else (q_st (z_sfi M 134 a ((z_fi M 134 a) + 1)) (fun (M_24 : z_Mem) => (q_st2 (cF_X1_packetAt a (z_fi M_24 134 a) M_24) (fun (x_26 : Option Nat) (M_26 : z_Mem) => (.inl (x1, x_26, M_26))))))))))
set_option maxRecDepth 100000 in
noncomputable def cF_X1_lowestInFlight_9 (a : Nat) (x1 : Option Nat) (x2 : Option Nat) (M : z_Mem) : (Option Nat × z_Mem) := q_lp (X := (Option Nat × Option Nat × z_Mem)) (Y := (Option Nat × z_Mem)) ((none : Option Nat), M) (fun t => cB_X1_lowestInFlight_9 a t.1 t.2.1 t.2.2) (x1, x2, M)
set_option maxRecDepth 100000 in
theorem cUl_X1_lowestInFlight_9 {a : Nat} {x1 : Option Nat} {x2 : Option Nat} {M : z_Mem} {y_x1 : Option Nat} {y_x2 : Option Nat} {M1 : z_Mem} (h : cB_X1_lowestInFlight_9 a x1 x2 M = .inl (y_x1, y_x2, M1)) : cF_X1_lowestInFlight_9 a x1 x2 M = cF_X1_lowestInFlight_9 a y_x1 y_x2 M1 := q_lpl (step := fun t => cB_X1_lowestInFlight_9 a t.1 t.2.1 t.2.2) h
set_option maxRecDepth 100000 in
theorem cUr_X1_lowestInFlight_9 {a : Nat} {x1 : Option Nat} {x2 : Option Nat} {M : z_Mem} {y : (Option Nat × z_Mem)} (h : cB_X1_lowestInFlight_9 a x1 x2 M = .inr y) : cF_X1_lowestInFlight_9 a x1 x2 M = y := q_lpr (step := fun t => cB_X1_lowestInFlight_9 a t.1 t.2.1 t.2.2) h
set_option maxRecDepth 100000 in
theorem cE_X1_lowestInFlight_9 (a : Nat) (x1 : Option Nat) (x2 : Option Nat) (M : z_Mem) : cB_X1_lowestInFlight_9 a x1 x2 M = (if ((z_fi M 133 a) ≤ (z_fi M 134 a)) then (.inr (cF_X1_lowestInFlight_53 a x1 M)) else (q_op x2 (.inr (cF_X1_lowestInFlight_53 a x1 M)) (fun a20 => (if ((z_fi M 778 a20) = 0) then (.inr (cF_X1_lowestInFlight_53 a x1 M)) else (q_st (z_sfi M 134 a ((z_fi M 134 a) + 1)) (fun (M_24 : z_Mem) => (q_st2 (cF_X1_packetAt a (z_fi M_24 134 a) M_24) (fun (x_26 : Option Nat) (M_26 : z_Mem) => (.inl (x1, x_26, M_26)))))))))) := rfl
set_option maxRecDepth 100000 in
set_option maxHeartbeats 4000000 in
theorem cS_X1_lowestInFlight_9 {Q Post : Option Nat → z_Mem → Prop} {a : Nat} : ∀ (m : Nat) {x1 : Option Nat} {x2 : Option Nat} {M : z_Mem} (H : P_X1_lowestInFlight_9 a Q m x1 x2 M) (K : ∀ x M1, Q x M1 → cF_X1_lowestInFlight_9 a x1 x2 M = (x, M1) → Post x M1), P_X1_lowestInFlight_9 a Post m x1 x2 M := by
  intro m
  induction m with
  | zero => intros; rename_i H _; exact False.elim H
  | succ m ih =>
    intro x1 x2 M H K
    have hF := cE_X1_lowestInFlight_9 a x1 x2 M
    unfold P_X1_lowestInFlight_9 at H ⊢
    refine And.intro (fun c1 => ?_) (fun c1 => ?_)
    · replace H := H.1 c1
      replace hF := hF.trans (if_pos c1)
      exact cS_X1_lowestInFlight_53 H (fun x M1 q u => K x M1 q (cUr_X1_lowestInFlight_9 (hF.trans (congrArg Sum.inr u))))
    · replace H := H.2 c1
      replace hF := hF.trans (if_neg c1)
      refine And.intro (fun c2 => ?_) (fun a20 c2 => ?_)
      · replace H := H.1 c2
        replace hF := hF.trans (q_opn c2)
        exact cS_X1_lowestInFlight_53 H (fun x M1 q u => K x M1 q (cUr_X1_lowestInFlight_9 (hF.trans (congrArg Sum.inr u))))
      · replace H := H.2 a20 c2
        replace hF := hF.trans (q_ops c2)
        refine And.intro (fun c3 => ?_) (fun c3 => ?_)
        · replace H := H.1 c3
          replace hF := hF.trans (if_pos c3)
          exact cS_X1_lowestInFlight_53 H (fun x M1 q u => K x M1 q (cUr_X1_lowestInFlight_9 (hF.trans (congrArg Sum.inr u))))
        · replace H := H.2 c3
          replace hF := hF.trans (if_neg c3)
          intro M_24 e_M_24
          replace H := H M_24 e_M_24
          replace hF := hF.trans (q_ste e_M_24)
          refine cS_X1_packetAt H (fun x_26 M_26 H u => ?_)
          replace hF := hF.trans (q_ste2 u)
          replace hF := cUl_X1_lowestInFlight_9 hF
          exact ih H (fun x M1 q u => K x M1 q (hF.trans u))
set_option maxRecDepth 100000 in
noncomputable def cF_X1_lowestInFlight (a : Nat) (p1 : Option Nat) (M : z_Mem) : (Option Nat × z_Mem) := (q_st2 (cF_X1_packetAt a (z_fi M 134 a) M) (fun (x_28 : Option Nat) (M_28 : z_Mem) => (cF_X1_lowestInFlight_9 a p1 x_28 M_28)))
set_option maxRecDepth 100000 in
theorem cE_X1_lowestInFlight (a : Nat) (p1 : Option Nat) (M : z_Mem) : cF_X1_lowestInFlight a p1 M = (q_st2 (cF_X1_packetAt a (z_fi M 134 a) M) (fun (x_28 : Option Nat) (M_28 : z_Mem) => (cF_X1_lowestInFlight_9 a p1 x_28 M_28))) := rfl
set_option maxRecDepth 100000 in
set_option maxHeartbeats 4000000 in
theorem cS_X1_lowestInFlight {Q Post : Option Nat → z_Mem → Prop} {a : Nat} {p1 : Option Nat} {M : z_Mem} (H : P_X1_lowestInFlight a p1 M Q) (K : ∀ x M1, Q x M1 → cF_X1_lowestInFlight a p1 M = (x, M1) → Post x M1) : P_X1_lowestInFlight a p1 M Post := by
  have hF := cE_X1_lowestInFlight a p1 M
  unfold P_X1_lowestInFlight at H ⊢
  refine cS_X1_packetAt H (fun x_28 M_28 H u => ?_)
  replace hF := hF.trans (q_ste2 u)
  obtain ⟨m, H⟩ := H
  refine ⟨m, ?_⟩
  exact cS_X1_lowestInFlight_9 m H (fun x M1 q u => K x M1 q (hF.trans u))
set_option maxRecDepth 100000 in
noncomputable def cF_X7_isLostByOrder (a : Nat) (p1 : Option Nat) (M : z_Mem) : (Int32 × z_Mem) := (q_st (Option.getD p1 0) (fun (a1 : Nat) => (if ((z_fi M 906 a) < ((z_fi M 780 a1) + 3)) then (0, M) else (1, M))))
set_option maxRecDepth 100000 in
theorem cE_X7_isLostByOrder (a : Nat) (p1 : Option Nat) (M : z_Mem) : cF_X7_isLostByOrder a p1 M = (q_st (Option.getD p1 0) (fun (a1 : Nat) => (if ((z_fi M 906 a) < ((z_fi M 780 a1) + 3)) then (0, M) else (1, M)))) := rfl
set_option maxRecDepth 100000 in
set_option maxHeartbeats 4000000 in
theorem cS_X7_isLostByOrder {Q Post : Int32 → z_Mem → Prop} {a : Nat} {p1 : Option Nat} {M : z_Mem} (H : P_X7_isLostByOrder a p1 M Q) (K : ∀ x M1, Q x M1 → cF_X7_isLostByOrder a p1 M = (x, M1) → Post x M1) : P_X7_isLostByOrder a p1 M Post := by
  have hF := cE_X7_isLostByOrder a p1 M
  unfold P_X7_isLostByOrder at H ⊢
  obtain ⟨a1, e_a1, H⟩ := H
  refine z_nn_of e_a1 ?_
  replace hF := hF.trans (q_ste (q_gd e_a1))
  refine And.intro (fun c1 => ?_) (fun c1 => ?_)
  · replace H := H.1 c1
    replace hF := hF.trans (if_pos c1)
    exact K _ _ H hF
  · replace H := H.2 c1
    replace hF := hF.trans (if_neg c1)
    exact K _ _ H hF
set_option maxRecDepth 100000 in
noncomputable def cF_X7_isLostByTime (a : Nat) (p1 : Option Nat) (p2 : Int32) (M : z_Mem) : (Int32 × z_Mem) := (q_st ((if (1 < ((9 * ((if (((z_fi M 900 a) / 8) < (z_fi M 903 a)) then (z_fi M 903 a) else ((z_fi M 900 a) / 8)) : Int32)) / 8)) then ((9 * ((if (((z_fi M 900 a) / 8) < (z_fi M 903 a)) then (z_fi M 903 a) else ((z_fi M 900 a) / 8)) : Int32)) / 8) else 1) : Int32) (fun (x_3 : Int32) => (q_st (Option.getD p1 0) (fun (a4 : Nat) => (if ((z_fi M 906 a) ≤ (z_fi M 780 a4)) then (0, M) else (if ((p2 - (z_fi M 770 a4)) < x_3) then (0, M) else (1, M)))))))
set_option maxRecDepth 100000 in
theorem cE_X7_isLostByTime (a : Nat) (p1 : Option Nat) (p2 : Int32) (M : z_Mem) : cF_X7_isLostByTime a p1 p2 M = (q_st ((if (1 < ((9 * ((if (((z_fi M 900 a) / 8) < (z_fi M 903 a)) then (z_fi M 903 a) else ((z_fi M 900 a) / 8)) : Int32)) / 8)) then ((9 * ((if (((z_fi M 900 a) / 8) < (z_fi M 903 a)) then (z_fi M 903 a) else ((z_fi M 900 a) / 8)) : Int32)) / 8) else 1) : Int32) (fun (x_3 : Int32) => (q_st (Option.getD p1 0) (fun (a4 : Nat) => (if ((z_fi M 906 a) ≤ (z_fi M 780 a4)) then (0, M) else (if ((p2 - (z_fi M 770 a4)) < x_3) then (0, M) else (1, M))))))) := rfl
set_option maxRecDepth 100000 in
set_option maxHeartbeats 4000000 in
theorem cS_X7_isLostByTime {Q Post : Int32 → z_Mem → Prop} {a : Nat} {p1 : Option Nat} {p2 : Int32} {M : z_Mem} (H : P_X7_isLostByTime a p1 p2 M Q) (K : ∀ x M1, Q x M1 → cF_X7_isLostByTime a p1 p2 M = (x, M1) → Post x M1) : P_X7_isLostByTime a p1 p2 M Post := by
  have hF := cE_X7_isLostByTime a p1 p2 M
  unfold P_X7_isLostByTime at H ⊢
  intro x_3 e_x_3
  replace H := H x_3 e_x_3
  replace hF := hF.trans (q_ste e_x_3)
  obtain ⟨a4, e_a4, H⟩ := H
  refine z_nn_of e_a4 ?_
  replace hF := hF.trans (q_ste (q_gd e_a4))
  refine And.intro (fun c1 => ?_) (fun c1 => ?_)
  · replace H := H.1 c1
    replace hF := hF.trans (if_pos c1)
    exact K _ _ H hF
  · replace H := H.2 c1
    replace hF := hF.trans (if_neg c1)
    refine And.intro (fun c2 => ?_) (fun c2 => ?_)
    · replace H := H.1 c2
      replace hF := hF.trans (if_pos c2)
      exact K _ _ H hF
    · replace H := H.2 c2
      replace hF := hF.trans (if_neg c2)
      exact K _ _ H hF
set_option maxRecDepth 100000 in
noncomputable def cF_X1_findLosses_63 (a : Nat) (x1 : Option Nat) (x2 : Int32) (x3 : Option Nat) (x4 : Int32) (M : z_Mem) : ((Option Nat × Int32 × Option Nat × Int32 × z_Mem) ⊕ z_Mem) := (q_st (cF_X1_leaveFlight a x3 2 M) (fun (M_1 : z_Mem) => (q_st (Option.getD x1 0) (fun (a2 : Nat) => (q_st (z_sfi M_1 911 a2 ((z_fi M_1 911 a2) + 1)) (fun (M_4 : z_Mem) => (q_st (Option.getD x3 0) (fun (a6 : Nat) => (q_st (Option.getD (z_fr M_4 128 a) 0) (fun (a11 : Nat) => (q_st (Option.getD (z_fr M_4 897 a2) 0) (fun (a14 : Nat) => (q_st (cF_X2_harm a14 (z_fi M_4 768 a6) (z_fi M_4 768 a6) (z_fi M_4 133 a) (z_fi M_4 645 a11) M_4) (fun (M_13 : z_Mem) => (q_st2 (cF_X1_lowestInFlight a x1 M_13) (fun (x_15 : Option Nat) (M_15 : z_Mem) => (q_st (x4 + (-1)) (fun (x_16 : Int32) => (.inl (x1, x2, x_15, x_16, M_15))))))))))))))))))))
set_option maxRecDepth 100000 in
theorem cE_X1_findLosses_63 (a : Nat) (x1 : Option Nat) (x2 : Int32) (x3 : Option Nat) (x4 : Int32) (M : z_Mem) : cF_X1_findLosses_63 a x1 x2 x3 x4 M = (q_st (cF_X1_leaveFlight a x3 2 M) (fun (M_1 : z_Mem) => (q_st (Option.getD x1 0) (fun (a2 : Nat) => (q_st (z_sfi M_1 911 a2 ((z_fi M_1 911 a2) + 1)) (fun (M_4 : z_Mem) => (q_st (Option.getD x3 0) (fun (a6 : Nat) => (q_st (Option.getD (z_fr M_4 128 a) 0) (fun (a11 : Nat) => (q_st (Option.getD (z_fr M_4 897 a2) 0) (fun (a14 : Nat) => (q_st (cF_X2_harm a14 (z_fi M_4 768 a6) (z_fi M_4 768 a6) (z_fi M_4 133 a) (z_fi M_4 645 a11) M_4) (fun (M_13 : z_Mem) => (q_st2 (cF_X1_lowestInFlight a x1 M_13) (fun (x_15 : Option Nat) (M_15 : z_Mem) => (q_st (x4 + (-1)) (fun (x_16 : Int32) => (.inl (x1, x2, x_15, x_16, M_15)))))))))))))))))))) := rfl
set_option maxRecDepth 100000 in
set_option maxHeartbeats 4000000 in
theorem cS_X1_findLosses_63 {Q Post : z_Mem → Prop} {a : Nat} {x1 : Option Nat} {x2 : Int32} {x3 : Option Nat} {x4 : Int32} {QJ12 PJ12 : Option Nat → Int32 → Option Nat → Int32 → z_Mem → Prop} {M : z_Mem} (H : P_X1_findLosses_63 a Q QJ12 x1 x2 x3 x4 M) (K : ∀ M1, Q M1 → cF_X1_findLosses_63 a x1 x2 x3 x4 M = (.inr M1) → Post M1) (KJ12 : ∀ v0 v1 v2 v3 M1, QJ12 v0 v1 v2 v3 M1 → cF_X1_findLosses_63 a x1 x2 x3 x4 M = (.inl (v0, v1, v2, v3, M1)) → PJ12 v0 v1 v2 v3 M1) : P_X1_findLosses_63 a Post PJ12 x1 x2 x3 x4 M := by
  have hF := cE_X1_findLosses_63 a x1 x2 x3 x4 M
  unfold P_X1_findLosses_63 at H ⊢
  refine cS_X1_leaveFlight H (fun M_1 H u => ?_)
  replace hF := hF.trans (q_ste u.symm)
  obtain ⟨a2, e_a2, H⟩ := H
  refine z_nn_of e_a2 ?_
  replace hF := hF.trans (q_ste (q_gd e_a2))
  intro M_4 e_M_4
  replace H := H M_4 e_M_4
  replace hF := hF.trans (q_ste e_M_4)
  obtain ⟨a6, e_a6, H⟩ := H
  refine z_nn_of e_a6 ?_
  replace hF := hF.trans (q_ste (q_gd e_a6))
  obtain ⟨a11, e_a11, H⟩ := H
  refine z_nn_of e_a11 ?_
  replace hF := hF.trans (q_ste (q_gd e_a11))
  obtain ⟨a14, e_a14, H⟩ := H
  refine z_nn_of e_a14 ?_
  replace hF := hF.trans (q_ste (q_gd e_a14))
  refine cS_X2_harm H (fun M_13 H u => ?_)
  replace hF := hF.trans (q_ste u.symm)
  refine cS_X1_lowestInFlight H (fun x_15 M_15 H u => ?_)
  replace hF := hF.trans (q_ste2 u)
  intro x_16 e_x_16
  replace H := H x_16 e_x_16
  replace hF := hF.trans (q_ste e_x_16)
  exact KJ12 _ _ _ _ _ H hF
set_option maxRecDepth 100000 in
noncomputable def cF_X1_findLosses_38 (a : Nat) (x1 : Option Nat) (x2 : Int32) (x3 : Option Nat) (x4 : Int32) (t0 : Int32) (M : z_Mem) : ((Option Nat × Int32 × Option Nat × Int32 × z_Mem) ⊕ z_Mem) := (if (t0 = 0) then (q_st (Option.getD (z_fr M 128 a) 0) (fun (a19 : Nat) => (q_st (Option.getD x1 0) (fun (a22 : Nat) => (q_st2 (cF_X7_isLostByTime a22 x3 (z_fi M 645 a19) M) (fun (x_21 : Int32) (M_21 : z_Mem) => (if (x_21 = 0) then (.inr M_21) else (cF_X1_findLosses_63 a x1 x2 x3 x4 M_21)))))))) else (cF_X1_findLosses_63 a x1 x2 x3 x4 M))
set_option maxRecDepth 100000 in
theorem cE_X1_findLosses_38 (a : Nat) (x1 : Option Nat) (x2 : Int32) (x3 : Option Nat) (x4 : Int32) (t0 : Int32) (M : z_Mem) : cF_X1_findLosses_38 a x1 x2 x3 x4 t0 M = (if (t0 = 0) then (q_st (Option.getD (z_fr M 128 a) 0) (fun (a19 : Nat) => (q_st (Option.getD x1 0) (fun (a22 : Nat) => (q_st2 (cF_X7_isLostByTime a22 x3 (z_fi M 645 a19) M) (fun (x_21 : Int32) (M_21 : z_Mem) => (if (x_21 = 0) then (.inr M_21) else (cF_X1_findLosses_63 a x1 x2 x3 x4 M_21)))))))) else (cF_X1_findLosses_63 a x1 x2 x3 x4 M)) := rfl
set_option maxRecDepth 100000 in
set_option maxHeartbeats 4000000 in
theorem cS_X1_findLosses_38 {Q Post : z_Mem → Prop} {a : Nat} {x1 : Option Nat} {x2 : Int32} {x3 : Option Nat} {x4 : Int32} {t0 : Int32} {QJ12 PJ12 : Option Nat → Int32 → Option Nat → Int32 → z_Mem → Prop} {M : z_Mem} (H : P_X1_findLosses_38 a Q QJ12 x1 x2 x3 x4 t0 M) (K : ∀ M1, Q M1 → cF_X1_findLosses_38 a x1 x2 x3 x4 t0 M = (.inr M1) → Post M1) (KJ12 : ∀ v0 v1 v2 v3 M1, QJ12 v0 v1 v2 v3 M1 → cF_X1_findLosses_38 a x1 x2 x3 x4 t0 M = (.inl (v0, v1, v2, v3, M1)) → PJ12 v0 v1 v2 v3 M1) : P_X1_findLosses_38 a Post PJ12 x1 x2 x3 x4 t0 M := by
  have hF := cE_X1_findLosses_38 a x1 x2 x3 x4 t0 M
  unfold P_X1_findLosses_38 at H ⊢
  refine And.intro (fun c1 => ?_) (fun c1 => ?_)
  · replace H := H.1 c1
    replace hF := hF.trans (if_pos c1)
    obtain ⟨a19, e_a19, H⟩ := H
    refine z_nn_of e_a19 ?_
    replace hF := hF.trans (q_ste (q_gd e_a19))
    obtain ⟨a22, e_a22, H⟩ := H
    refine z_nn_of e_a22 ?_
    replace hF := hF.trans (q_ste (q_gd e_a22))
    refine cS_X7_isLostByTime H (fun x_21 M_21 H u => ?_)
    replace hF := hF.trans (q_ste2 u)
    refine And.intro (fun c2 => ?_) (fun c2 => ?_)
    · replace H := H.1 c2
      replace hF := hF.trans (if_pos c2)
      exact K _ H hF
    · replace H := H.2 c2
      replace hF := hF.trans (if_neg c2)
      exact cS_X1_findLosses_63 H (fun M1 q u => K M1 q (hF.trans u)) (fun v0 v1 v2 v3 M1 q u => KJ12 v0 v1 v2 v3 M1 q (hF.trans u))
  · replace H := H.2 c1
    replace hF := hF.trans (if_neg c1)
    exact cS_X1_findLosses_63 H (fun M1 q u => K M1 q (hF.trans u)) (fun v0 v1 v2 v3 M1 q u => KJ12 v0 v1 v2 v3 M1 q (hF.trans u))
set_option maxRecDepth 100000 in
noncomputable def cF_X1_findLosses_37 (a : Nat) (x1 : Option Nat) (x2 : Int32) (x3 : Option Nat) (x4 : Int32) (M : z_Mem) : ((Option Nat × Int32 × Option Nat × Int32 × z_Mem) ⊕ z_Mem) := (cF_X1_findLosses_38 a x1 x2 x3 x4 0 M)
set_option maxRecDepth 100000 in
theorem cE_X1_findLosses_37 (a : Nat) (x1 : Option Nat) (x2 : Int32) (x3 : Option Nat) (x4 : Int32) (M : z_Mem) : cF_X1_findLosses_37 a x1 x2 x3 x4 M = (cF_X1_findLosses_38 a x1 x2 x3 x4 0 M) := rfl
set_option maxRecDepth 100000 in
set_option maxHeartbeats 4000000 in
theorem cS_X1_findLosses_37 {Q Post : z_Mem → Prop} {a : Nat} {x1 : Option Nat} {x2 : Int32} {x3 : Option Nat} {x4 : Int32} {QJ12 PJ12 : Option Nat → Int32 → Option Nat → Int32 → z_Mem → Prop} {M : z_Mem} (H : P_X1_findLosses_37 a Q QJ12 x1 x2 x3 x4 M) (K : ∀ M1, Q M1 → cF_X1_findLosses_37 a x1 x2 x3 x4 M = (.inr M1) → Post M1) (KJ12 : ∀ v0 v1 v2 v3 M1, QJ12 v0 v1 v2 v3 M1 → cF_X1_findLosses_37 a x1 x2 x3 x4 M = (.inl (v0, v1, v2, v3, M1)) → PJ12 v0 v1 v2 v3 M1) : P_X1_findLosses_37 a Post PJ12 x1 x2 x3 x4 M := by
  have hF := cE_X1_findLosses_37 a x1 x2 x3 x4 M
  unfold P_X1_findLosses_37 at H ⊢
  exact cS_X1_findLosses_38 H (fun M1 q u => K M1 q (hF.trans u)) (fun v0 v1 v2 v3 M1 q u => KJ12 v0 v1 v2 v3 M1 q (hF.trans u))
set_option maxRecDepth 100000 in
noncomputable def cB_X1_findLosses_12 (a : Nat) (x1 : Option Nat) (x2 : Int32) (x3 : Option Nat) (x4 : Int32) (M : z_Mem) : (Option Nat × Int32 × Option Nat × Int32 × z_Mem) ⊕ z_Mem := (if (x4 ≤ 0) then (.inr M) else (q_op x3 (.inr M) (fun a25 => (if (x2 = 0) then (cF_X1_findLosses_37 a x1 x2 x3 x4 M) else (q_st (Option.getD x1 0) (fun (a28 : Nat) => (q_st2 (cF_X7_isLostByOrder a28 x3 M) (fun (x_27 : Int32) (M_27 : z_Mem) => (if (x_27 = 0) then (cF_X1_findLosses_37 a x1 x2 x3 x4 M_27) else (cF_X1_findLosses_38 a x1 x2 x3 x4 1 M_27))))))))))
set_option maxRecDepth 100000 in
noncomputable def cF_X1_findLosses_12 (a : Nat) (x1 : Option Nat) (x2 : Int32) (x3 : Option Nat) (x4 : Int32) (M : z_Mem) : z_Mem := q_lp (X := (Option Nat × Int32 × Option Nat × Int32 × z_Mem)) (Y := z_Mem) M (fun t => cB_X1_findLosses_12 a t.1 t.2.1 t.2.2.1 t.2.2.2.1 t.2.2.2.2) (x1, x2, x3, x4, M)
set_option maxRecDepth 100000 in
theorem cUl_X1_findLosses_12 {a : Nat} {x1 : Option Nat} {x2 : Int32} {x3 : Option Nat} {x4 : Int32} {M : z_Mem} {y_x1 : Option Nat} {y_x2 : Int32} {y_x3 : Option Nat} {y_x4 : Int32} {M1 : z_Mem} (h : cB_X1_findLosses_12 a x1 x2 x3 x4 M = .inl (y_x1, y_x2, y_x3, y_x4, M1)) : cF_X1_findLosses_12 a x1 x2 x3 x4 M = cF_X1_findLosses_12 a y_x1 y_x2 y_x3 y_x4 M1 := q_lpl (step := fun t => cB_X1_findLosses_12 a t.1 t.2.1 t.2.2.1 t.2.2.2.1 t.2.2.2.2) h
set_option maxRecDepth 100000 in
theorem cUr_X1_findLosses_12 {a : Nat} {x1 : Option Nat} {x2 : Int32} {x3 : Option Nat} {x4 : Int32} {M : z_Mem} {y : z_Mem} (h : cB_X1_findLosses_12 a x1 x2 x3 x4 M = .inr y) : cF_X1_findLosses_12 a x1 x2 x3 x4 M = y := q_lpr (step := fun t => cB_X1_findLosses_12 a t.1 t.2.1 t.2.2.1 t.2.2.2.1 t.2.2.2.2) h
set_option maxRecDepth 100000 in
theorem cE_X1_findLosses_12 (a : Nat) (x1 : Option Nat) (x2 : Int32) (x3 : Option Nat) (x4 : Int32) (M : z_Mem) : cB_X1_findLosses_12 a x1 x2 x3 x4 M = (if (x4 ≤ 0) then (.inr M) else (q_op x3 (.inr M) (fun a25 => (if (x2 = 0) then (cF_X1_findLosses_37 a x1 x2 x3 x4 M) else (q_st (Option.getD x1 0) (fun (a28 : Nat) => (q_st2 (cF_X7_isLostByOrder a28 x3 M) (fun (x_27 : Int32) (M_27 : z_Mem) => (if (x_27 = 0) then (cF_X1_findLosses_37 a x1 x2 x3 x4 M_27) else (cF_X1_findLosses_38 a x1 x2 x3 x4 1 M_27)))))))))) := rfl
set_option maxRecDepth 100000 in
set_option maxHeartbeats 4000000 in
theorem cS_X1_findLosses_12 {Q Post : z_Mem → Prop} {a : Nat} : ∀ (m : Nat) {x1 : Option Nat} {x2 : Int32} {x3 : Option Nat} {x4 : Int32} {M : z_Mem} (H : P_X1_findLosses_12 a Q m x1 x2 x3 x4 M) (K : ∀ M1, Q M1 → cF_X1_findLosses_12 a x1 x2 x3 x4 M = M1 → Post M1), P_X1_findLosses_12 a Post m x1 x2 x3 x4 M := by
  intro m
  induction m with
  | zero => intros; rename_i H _; exact False.elim H
  | succ m ih =>
    intro x1 x2 x3 x4 M H K
    have hF := cE_X1_findLosses_12 a x1 x2 x3 x4 M
    unfold P_X1_findLosses_12 at H ⊢
    refine And.intro (fun c1 => ?_) (fun c1 => ?_)
    · replace H := H.1 c1
      replace hF := hF.trans (if_pos c1)
      exact K _ H (cUr_X1_findLosses_12 hF)
    · replace H := H.2 c1
      replace hF := hF.trans (if_neg c1)
      refine And.intro (fun c2 => ?_) (fun a25 c2 => ?_)
      · replace H := H.1 c2
        replace hF := hF.trans (q_opn c2)
        exact K _ H (cUr_X1_findLosses_12 hF)
      · replace H := H.2 a25 c2
        replace hF := hF.trans (q_ops c2)
        refine And.intro (fun c3 => ?_) (fun c3 => ?_)
        · replace H := H.1 c3
          replace hF := hF.trans (if_pos c3)
          exact cS_X1_findLosses_37 H (fun M1 q u => K M1 q (cUr_X1_findLosses_12 (hF.trans u))) (fun v0 v1 v2 v3 M1 q u => ih q (fun M1 q u2 => K M1 q ((cUl_X1_findLosses_12 (hF.trans u)).trans u2))) 
        · replace H := H.2 c3
          replace hF := hF.trans (if_neg c3)
          obtain ⟨a28, e_a28, H⟩ := H
          refine z_nn_of e_a28 ?_
          replace hF := hF.trans (q_ste (q_gd e_a28))
          refine cS_X7_isLostByOrder H (fun x_27 M_27 H u => ?_)
          replace hF := hF.trans (q_ste2 u)
          refine And.intro (fun c4 => ?_) (fun c4 => ?_)
          · replace H := H.1 c4
            replace hF := hF.trans (if_pos c4)
            exact cS_X1_findLosses_37 H (fun M1 q u => K M1 q (cUr_X1_findLosses_12 (hF.trans u))) (fun v0 v1 v2 v3 M1 q u => ih q (fun M1 q u2 => K M1 q ((cUl_X1_findLosses_12 (hF.trans u)).trans u2))) 
          · replace H := H.2 c4
            replace hF := hF.trans (if_neg c4)
            exact cS_X1_findLosses_38 H (fun M1 q u => K M1 q (cUr_X1_findLosses_12 (hF.trans u))) (fun v0 v1 v2 v3 M1 q u => ih q (fun M1 q u2 => K M1 q ((cUl_X1_findLosses_12 (hF.trans u)).trans u2))) 
set_option maxRecDepth 100000 in
noncomputable def cF_X1_findLosses (a : Nat) (p1 : Option Nat) (p2 : Int32) (M : z_Mem) : z_Mem := (q_st2 (cF_X1_lowestInFlight a p1 M) (fun (x_30 : Option Nat) (M_30 : z_Mem) => (q_st (Option.getD p1 0) (fun (a31 : Nat) => (q_st (z_fi M_30 899 a31) (fun (x_33 : Int32) => (cF_X1_findLosses_12 a p1 p2 x_30 x_33 M_30)))))))
set_option maxRecDepth 100000 in
theorem cE_X1_findLosses (a : Nat) (p1 : Option Nat) (p2 : Int32) (M : z_Mem) : cF_X1_findLosses a p1 p2 M = (q_st2 (cF_X1_lowestInFlight a p1 M) (fun (x_30 : Option Nat) (M_30 : z_Mem) => (q_st (Option.getD p1 0) (fun (a31 : Nat) => (q_st (z_fi M_30 899 a31) (fun (x_33 : Int32) => (cF_X1_findLosses_12 a p1 p2 x_30 x_33 M_30))))))) := rfl
set_option maxRecDepth 100000 in
set_option maxHeartbeats 4000000 in
theorem cS_X1_findLosses {Q Post : z_Mem → Prop} {a : Nat} {p1 : Option Nat} {p2 : Int32} {M : z_Mem} (H : P_X1_findLosses a p1 p2 M Q) (K : ∀ M1, Q M1 → cF_X1_findLosses a p1 p2 M = M1 → Post M1) : P_X1_findLosses a p1 p2 M Post := by
  have hF := cE_X1_findLosses a p1 p2 M
  unfold P_X1_findLosses at H ⊢
  refine cS_X1_lowestInFlight H (fun x_30 M_30 H u => ?_)
  replace hF := hF.trans (q_ste2 u)
  obtain ⟨a31, e_a31, H⟩ := H
  refine z_nn_of e_a31 ?_
  replace hF := hF.trans (q_ste (q_gd e_a31))
  intro x_33 e_x_33
  replace H := H x_33 e_x_33
  replace hF := hF.trans (q_ste e_x_33)
  obtain ⟨m, H⟩ := H
  refine ⟨m, ?_⟩
  exact cS_X1_findLosses_12 m H (fun M1 q u => K M1 q (hF.trans u))
set_option maxRecDepth 100000 in
noncomputable def cF_X1_hearAck_89 (a : Nat) (x1 : Option Nat) (x2 : Option Nat) (x3 : Int32) (x4 : Int32) (M : z_Mem) : ((Option Nat × Option Nat × Int32 × Int32 × z_Mem) ⊕ z_Mem) := (q_st (x4 + (-1)) (fun (x_1 : Int32) => (.inl (x1, x2, x3, x_1, M))))
set_option maxRecDepth 100000 in
theorem cE_X1_hearAck_89 (a : Nat) (x1 : Option Nat) (x2 : Option Nat) (x3 : Int32) (x4 : Int32) (M : z_Mem) : cF_X1_hearAck_89 a x1 x2 x3 x4 M = (q_st (x4 + (-1)) (fun (x_1 : Int32) => (.inl (x1, x2, x3, x_1, M)))) := rfl
set_option maxRecDepth 100000 in
set_option maxHeartbeats 4000000 in
theorem cS_X1_hearAck_89 {Q Post : z_Mem → Prop} {a : Nat} {x1 : Option Nat} {x2 : Option Nat} {x3 : Int32} {x4 : Int32} {QJ38 PJ38 : Option Nat → Option Nat → Int32 → Int32 → z_Mem → Prop} {M : z_Mem} (H : P_X1_hearAck_89 a Q QJ38 x1 x2 x3 x4 M) (K : ∀ M1, Q M1 → cF_X1_hearAck_89 a x1 x2 x3 x4 M = (.inr M1) → Post M1) (KJ38 : ∀ v0 v1 v2 v3 M1, QJ38 v0 v1 v2 v3 M1 → cF_X1_hearAck_89 a x1 x2 x3 x4 M = (.inl (v0, v1, v2, v3, M1)) → PJ38 v0 v1 v2 v3 M1) : P_X1_hearAck_89 a Post PJ38 x1 x2 x3 x4 M := by
  have hF := cE_X1_hearAck_89 a x1 x2 x3 x4 M
  unfold P_X1_hearAck_89 at H ⊢
  intro x_1 e_x_1
  replace H := H x_1 e_x_1
  replace hF := hF.trans (q_ste e_x_1)
  exact KJ38 _ _ _ _ _ H hF
set_option maxRecDepth 100000 in
noncomputable def cB_X1_hearAck_52 (a : Nat) (x1 : Option Nat) (x2 : Option Nat) (x3 : Int32) (x4 : Int32) (x5 : Int32) (M : z_Mem) : (Option Nat × Option Nat × Int32 × Int32 × Int32 × z_Mem) ⊕ ((Option Nat × Option Nat × Int32 × Int32 × z_Mem) ⊕ z_Mem) := (q_st (Option.getD x1 0) (fun (a2 : Nat) => (q_st (Option.getD (z_fr M 1 a2) 0) (fun (a4 : Nat) => (if ((z_ai M a4 (x4 : Int32).toNatClampNeg) < x5) then (.inr (cF_X1_hearAck_89 a x1 x2 x3 x4 M)) else (if ((z_fi M 133 a) ≤ x5) then (.inr (cF_X1_hearAck_89 a x1 x2 x3 x4 M)) else (q_st2 (cF_X1_packetAt a x5 M) (fun (x_9 : Option Nat) (M_9 : z_Mem) => (q_st (cF_X1_acknowledge a x_9 M_9) (fun (M_10 : z_Mem) => (q_st (x5 + 1) (fun (x_11 : Int32) => (.inl (x1, x2, x3, x4, x_11, M_10))))))))))))))
set_option maxRecDepth 100000 in
noncomputable def cF_X1_hearAck_52 (a : Nat) (x1 : Option Nat) (x2 : Option Nat) (x3 : Int32) (x4 : Int32) (x5 : Int32) (M : z_Mem) : ((Option Nat × Option Nat × Int32 × Int32 × z_Mem) ⊕ z_Mem) := q_lp (X := (Option Nat × Option Nat × Int32 × Int32 × Int32 × z_Mem)) (Y := ((Option Nat × Option Nat × Int32 × Int32 × z_Mem) ⊕ z_Mem)) (.inr M) (fun t => cB_X1_hearAck_52 a t.1 t.2.1 t.2.2.1 t.2.2.2.1 t.2.2.2.2.1 t.2.2.2.2.2) (x1, x2, x3, x4, x5, M)
set_option maxRecDepth 100000 in
theorem cUl_X1_hearAck_52 {a : Nat} {x1 : Option Nat} {x2 : Option Nat} {x3 : Int32} {x4 : Int32} {x5 : Int32} {M : z_Mem} {y_x1 : Option Nat} {y_x2 : Option Nat} {y_x3 : Int32} {y_x4 : Int32} {y_x5 : Int32} {M1 : z_Mem} (h : cB_X1_hearAck_52 a x1 x2 x3 x4 x5 M = .inl (y_x1, y_x2, y_x3, y_x4, y_x5, M1)) : cF_X1_hearAck_52 a x1 x2 x3 x4 x5 M = cF_X1_hearAck_52 a y_x1 y_x2 y_x3 y_x4 y_x5 M1 := q_lpl (step := fun t => cB_X1_hearAck_52 a t.1 t.2.1 t.2.2.1 t.2.2.2.1 t.2.2.2.2.1 t.2.2.2.2.2) h
set_option maxRecDepth 100000 in
theorem cUr_X1_hearAck_52 {a : Nat} {x1 : Option Nat} {x2 : Option Nat} {x3 : Int32} {x4 : Int32} {x5 : Int32} {M : z_Mem} {y : ((Option Nat × Option Nat × Int32 × Int32 × z_Mem) ⊕ z_Mem)} (h : cB_X1_hearAck_52 a x1 x2 x3 x4 x5 M = .inr y) : cF_X1_hearAck_52 a x1 x2 x3 x4 x5 M = y := q_lpr (step := fun t => cB_X1_hearAck_52 a t.1 t.2.1 t.2.2.1 t.2.2.2.1 t.2.2.2.2.1 t.2.2.2.2.2) h
set_option maxRecDepth 100000 in
theorem cE_X1_hearAck_52 (a : Nat) (x1 : Option Nat) (x2 : Option Nat) (x3 : Int32) (x4 : Int32) (x5 : Int32) (M : z_Mem) : cB_X1_hearAck_52 a x1 x2 x3 x4 x5 M = (q_st (Option.getD x1 0) (fun (a2 : Nat) => (q_st (Option.getD (z_fr M 1 a2) 0) (fun (a4 : Nat) => (if ((z_ai M a4 (x4 : Int32).toNatClampNeg) < x5) then (.inr (cF_X1_hearAck_89 a x1 x2 x3 x4 M)) else (if ((z_fi M 133 a) ≤ x5) then (.inr (cF_X1_hearAck_89 a x1 x2 x3 x4 M)) else (q_st2 (cF_X1_packetAt a x5 M) (fun (x_9 : Option Nat) (M_9 : z_Mem) => (q_st (cF_X1_acknowledge a x_9 M_9) (fun (M_10 : z_Mem) => (q_st (x5 + 1) (fun (x_11 : Int32) => (.inl (x1, x2, x3, x4, x_11, M_10)))))))))))))) := rfl
set_option maxRecDepth 100000 in
set_option maxHeartbeats 4000000 in
theorem cS_X1_hearAck_52 {Q Post : z_Mem → Prop} {a : Nat} {QJ38 PJ38 : Option Nat → Option Nat → Int32 → Int32 → z_Mem → Prop} : ∀ (m : Nat) {x1 : Option Nat} {x2 : Option Nat} {x3 : Int32} {x4 : Int32} {x5 : Int32} {M : z_Mem} (H : P_X1_hearAck_52 a Q QJ38 m x1 x2 x3 x4 x5 M) (K : ∀ M1, Q M1 → cF_X1_hearAck_52 a x1 x2 x3 x4 x5 M = (.inr M1) → Post M1) (KJ38 : ∀ v0 v1 v2 v3 M1, QJ38 v0 v1 v2 v3 M1 → cF_X1_hearAck_52 a x1 x2 x3 x4 x5 M = (.inl (v0, v1, v2, v3, M1)) → PJ38 v0 v1 v2 v3 M1), P_X1_hearAck_52 a Post PJ38 m x1 x2 x3 x4 x5 M := by
  intro m
  induction m with
  | zero => intros; rename_i H _ _; exact False.elim H
  | succ m ih =>
    intro x1 x2 x3 x4 x5 M H K KJ38
    have hF := cE_X1_hearAck_52 a x1 x2 x3 x4 x5 M
    unfold P_X1_hearAck_52 at H ⊢
    obtain ⟨a2, e_a2, H⟩ := H
    refine z_nn_of e_a2 ?_
    replace hF := hF.trans (q_ste (q_gd e_a2))
    obtain ⟨a4, e_a4, H⟩ := H
    refine z_nn_of e_a4 ?_
    replace hF := hF.trans (q_ste (q_gd e_a4))
    refine And.intro H.1 ?_
    replace H := H.2
    refine And.intro (fun c1 => ?_) (fun c1 => ?_)
    · replace H := H.1 c1
      replace hF := hF.trans (if_pos c1)
      exact cS_X1_hearAck_89 H (fun M1 q u => K M1 q (cUr_X1_hearAck_52 (hF.trans (congrArg Sum.inr u)))) (fun w0 w1 w2 w3 M1 q u => KJ38 w0 w1 w2 w3 M1 q (cUr_X1_hearAck_52 (hF.trans (congrArg Sum.inr u))))
    · replace H := H.2 c1
      replace hF := hF.trans (if_neg c1)
      refine And.intro (fun c2 => ?_) (fun c2 => ?_)
      · replace H := H.1 c2
        replace hF := hF.trans (if_pos c2)
        exact cS_X1_hearAck_89 H (fun M1 q u => K M1 q (cUr_X1_hearAck_52 (hF.trans (congrArg Sum.inr u)))) (fun w0 w1 w2 w3 M1 q u => KJ38 w0 w1 w2 w3 M1 q (cUr_X1_hearAck_52 (hF.trans (congrArg Sum.inr u))))
      · replace H := H.2 c2
        replace hF := hF.trans (if_neg c2)
        refine cS_X1_packetAt H (fun x_9 M_9 H u => ?_)
        replace hF := hF.trans (q_ste2 u)
        refine cS_X1_acknowledge H (fun M_10 H u => ?_)
        replace hF := hF.trans (q_ste u.symm)
        intro x_11 e_x_11
        replace H := H x_11 e_x_11
        replace hF := hF.trans (q_ste e_x_11)
        replace hF := cUl_X1_hearAck_52 hF
        exact ih H (fun M1 q u => K M1 q (hF.trans u)) (fun v0 v1 v2 v3 M1 q u => KJ38 v0 v1 v2 v3 M1 q (hF.trans u))
set_option maxRecDepth 100000 in
noncomputable def cF_X1_hearAck_109 (a : Nat) (x1 : Option Nat) (M : z_Mem) : z_Mem := (q_st (cF_X1_takeCredits a x1 M) (fun (M_12 : z_Mem) => (q_st (Option.getD (z_fr M_12 130 a) 0) (fun (a14 : Nat) => (q_st (z_sfi M_12 910 a14 0) (fun (M_15 : z_Mem) => (q_st (Option.getD (z_fr M_15 131 a) 0) (fun (a17 : Nat) => (q_st (z_sfi M_15 910 a17 0) (fun (M_18 : z_Mem) => (q_st (cF_X1_findLosses a (z_fr M_18 130 a) 1 M_18) (fun (M_20 : z_Mem) => (q_st (cF_X1_findLosses a (z_fr M_20 131 a) 1 M_20) (fun (M_22 : z_Mem) => M_22))))))))))))))
set_option maxRecDepth 100000 in
theorem cE_X1_hearAck_109 (a : Nat) (x1 : Option Nat) (M : z_Mem) : cF_X1_hearAck_109 a x1 M = (q_st (cF_X1_takeCredits a x1 M) (fun (M_12 : z_Mem) => (q_st (Option.getD (z_fr M_12 130 a) 0) (fun (a14 : Nat) => (q_st (z_sfi M_12 910 a14 0) (fun (M_15 : z_Mem) => (q_st (Option.getD (z_fr M_15 131 a) 0) (fun (a17 : Nat) => (q_st (z_sfi M_15 910 a17 0) (fun (M_18 : z_Mem) => (q_st (cF_X1_findLosses a (z_fr M_18 130 a) 1 M_18) (fun (M_20 : z_Mem) => (q_st (cF_X1_findLosses a (z_fr M_20 131 a) 1 M_20) (fun (M_22 : z_Mem) => M_22)))))))))))))) := rfl
set_option maxRecDepth 100000 in
set_option maxHeartbeats 4000000 in
theorem cS_X1_hearAck_109 {Q Post : z_Mem → Prop} {a : Nat} {x1 : Option Nat} {M : z_Mem} (H : P_X1_hearAck_109 a Q x1 M) (K : ∀ M1, Q M1 → cF_X1_hearAck_109 a x1 M = M1 → Post M1) : P_X1_hearAck_109 a Post x1 M := by
  have hF := cE_X1_hearAck_109 a x1 M
  unfold P_X1_hearAck_109 at H ⊢
  refine cS_X1_takeCredits H (fun M_12 H u => ?_)
  replace hF := hF.trans (q_ste u.symm)
  obtain ⟨a14, e_a14, H⟩ := H
  refine z_nn_of e_a14 ?_
  replace hF := hF.trans (q_ste (q_gd e_a14))
  intro M_15 e_M_15
  replace H := H M_15 e_M_15
  replace hF := hF.trans (q_ste e_M_15)
  obtain ⟨a17, e_a17, H⟩ := H
  refine z_nn_of e_a17 ?_
  replace hF := hF.trans (q_ste (q_gd e_a17))
  intro M_18 e_M_18
  replace H := H M_18 e_M_18
  replace hF := hF.trans (q_ste e_M_18)
  refine cS_X1_findLosses H (fun M_20 H u => ?_)
  replace hF := hF.trans (q_ste u.symm)
  refine cS_X1_findLosses H (fun M_22 H u => ?_)
  replace hF := hF.trans (q_ste u.symm)
  exact K _ H hF
