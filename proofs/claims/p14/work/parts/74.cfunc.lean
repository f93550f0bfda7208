/-! ===== THE CLASS as functions on memories, 3 ===== -/
set_option maxRecDepth 100000 in
noncomputable def cB_X1_hearAck_38 (a : Nat) (x1 : Option Nat) (x2 : Option Nat) (x3 : Int32) (x4 : Int32) (M : z_Mem) : (Option Nat × Option Nat × Int32 × Int32 × z_Mem) ⊕ z_Mem := (if (x4 < 0) then (q_op x2 (.inr (cF_X1_hearAck_109 a x1 M)) (fun a24 => (q_st (Option.getD x1 0) (fun (a25 : Nat) => (q_st (cF_X1_hearOfGreatest a x2 x3 (z_fi M 4 a25) M) (fun (M_27 : z_Mem) => (.inr (cF_X1_hearAck_109 a x1 M_27)))))))) else (q_st (Option.getD x1 0) (fun (a28 : Nat) => (q_st (Option.getD (z_fr M 0 a28) 0) (fun (a30 : Nat) => (q_st (z_ai M a30 (x4 : Int32).toNatClampNeg) (fun (x_32 : Int32) => (cF_X1_hearAck_52 a x1 x2 x3 x4 x_32 M))))))))
set_option maxRecDepth 100000 in
noncomputable def cF_X1_hearAck_38 (a : Nat) (x1 : Option Nat) (x2 : Option Nat) (x3 : Int32) (x4 : Int32) (M : z_Mem) : z_Mem := q_lp (X := (Option Nat × Option Nat × Int32 × Int32 × z_Mem)) (Y := z_Mem) M (fun t => cB_X1_hearAck_38 a t.1 t.2.1 t.2.2.1 t.2.2.2.1 t.2.2.2.2) (x1, x2, x3, x4, M)
set_option maxRecDepth 100000 in
theorem cUl_X1_hearAck_38 {a : Nat} {x1 : Option Nat} {x2 : Option Nat} {x3 : Int32} {x4 : Int32} {M : z_Mem} {y_x1 : Option Nat} {y_x2 : Option Nat} {y_x3 : Int32} {y_x4 : Int32} {M1 : z_Mem} (h : cB_X1_hearAck_38 a x1 x2 x3 x4 M = .inl (y_x1, y_x2, y_x3, y_x4, M1)) : cF_X1_hearAck_38 a x1 x2 x3 x4 M = cF_X1_hearAck_38 a y_x1 y_x2 y_x3 y_x4 M1 := q_lpl (step := fun t => cB_X1_hearAck_38 a t.1 t.2.1 t.2.2.1 t.2.2.2.1 t.2.2.2.2) h
set_option maxRecDepth 100000 in
theorem cUr_X1_hearAck_38 {a : Nat} {x1 : Option Nat} {x2 : Option Nat} {x3 : Int32} {x4 : Int32} {M : z_Mem} {y : z_Mem} (h : cB_X1_hearAck_38 a x1 x2 x3 x4 M = .inr y) : cF_X1_hearAck_38 a x1 x2 x3 x4 M = y := q_lpr (step := fun t => cB_X1_hearAck_38 a t.1 t.2.1 t.2.2.1 t.2.2.2.1 t.2.2.2.2) h
set_option maxRecDepth 100000 in
theorem cE_X1_hearAck_38 (a : Nat) (x1 : Option Nat) (x2 : Option Nat) (x3 : Int32) (x4 : Int32) (M : z_Mem) : cB_X1_hearAck_38 a x1 x2 x3 x4 M = (if (x4 < 0) then (q_op x2 (.inr (cF_X1_hearAck_109 a x1 M)) (fun a24 => (q_st (Option.getD x1 0) (fun (a25 : Nat) => (q_st (cF_X1_hearOfGreatest a x2 x3 (z_fi M 4 a25) M) (fun (M_27 : z_Mem) => (.inr (cF_X1_hearAck_109 a x1 M_27)))))))) else (q_st (Option.getD x1 0) (fun (a28 : Nat) => (q_st (Option.getD (z_fr M 0 a28) 0) (fun (a30 : Nat) => (q_st (z_ai M a30 (x4 : Int32).toNatClampNeg) (fun (x_32 : Int32) => (cF_X1_hearAck_52 a x1 x2 x3 x4 x_32 M)))))))) := rfl
set_option maxRecDepth 100000 in
set_option maxHeartbeats 4000000 in
theorem cS_X1_hearAck_38 {Q Post : z_Mem → Prop} {a : Nat} : ∀ (m : Nat) {x1 : Option Nat} {x2 : Option Nat} {x3 : Int32} {x4 : Int32} {M : z_Mem} (H : P_X1_hearAck_38 a Q m x1 x2 x3 x4 M) (K : ∀ M1, Q M1 → cF_X1_hearAck_38 a x1 x2 x3 x4 M = M1 → Post M1), P_X1_hearAck_38 a Post m x1 x2 x3 x4 M := by
  intro m
  induction m with
  | zero => intros; rename_i H _; exact False.elim H
  | succ m ih =>
    intro x1 x2 x3 x4 M H K
    have hF := cE_X1_hearAck_38 a x1 x2 x3 x4 M
    unfold P_X1_hearAck_38 at H ⊢
    refine And.intro (fun c1 => ?_) (fun c1 => ?_)
    · replace H := H.1 c1
      replace hF := hF.trans (if_pos c1)
      refine And.intro (fun c2 => ?_) (fun a24 c2 => ?_)
      · replace H := H.1 c2
        replace hF := hF.trans (q_opn c2)
        exact cS_X1_hearAck_109 H (fun M1 q u => K M1 q (cUr_X1_hearAck_38 (hF.trans (congrArg Sum.inr u))))
      · replace H := H.2 a24 c2
        replace hF := hF.trans (q_ops c2)
        obtain ⟨a25, e_a25, H⟩ := H
        refine z_nn_of e_a25 ?_
        replace hF := hF.trans (q_ste (q_gd e_a25))
        refine cS_X1_hearOfGreatest H (fun M_27 H u => ?_)
        replace hF := hF.trans (q_ste u.symm)
        exact cS_X1_hearAck_109 H (fun M1 q u => K M1 q (cUr_X1_hearAck_38 (hF.trans (congrArg Sum.inr u))))
    · replace H := H.2 c1
      replace hF := hF.trans (if_neg c1)
      obtain ⟨a28, e_a28, H⟩ := H
      refine z_nn_of e_a28 ?_
      replace hF := hF.trans (q_ste (q_gd e_a28))
      obtain ⟨a30, e_a30, H⟩ := H
      refine z_nn_of e_a30 ?_
      replace hF := hF.trans (q_ste (q_gd e_a30))
      refine And.intro H.1 ?_
      replace H := H.2
      intro x_32 e_x_32
      replace H := H x_32 e_x_32
      replace hF := hF.trans (q_ste e_x_32)
      obtain ⟨m, H⟩ := H
      refine ⟨m, ?_⟩
      exact cS_X1_hearAck_52 m H (fun M1 q u => K M1 q (cUr_X1_hearAck_38 (hF.trans u))) (fun v0 v1 v2 v3 M1 q u => ih q (fun M1 q u2 => K M1 q ((cUl_X1_hearAck_38 (hF.trans u)).trans u2))) 
set_option maxRecDepth 100000 in
noncomputable def cF_X1_hearAck_25 (a : Nat) (x1 : Option Nat) (x2 : Option Nat) (t0 : Int32) (M : z_Mem) : z_Mem := (q_st (Option.getD x1 0) (fun (a34 : Nat) => (q_st (((if (4 < (z_fi M 3 a34)) then 4 else (z_fi M 3 a34)) : Int32) - 1) (fun (x_36 : Int32) => (cF_X1_hearAck_38 a x1 x2 t0 x_36 M)))))
set_option maxRecDepth 100000 in
theorem cE_X1_hearAck_25 (a : Nat) (x1 : Option Nat) (x2 : Option Nat) (t0 : Int32) (M : z_Mem) : cF_X1_hearAck_25 a x1 x2 t0 M = (q_st (Option.getD x1 0) (fun (a34 : Nat) => (q_st (((if (4 < (z_fi M 3 a34)) then 4 else (z_fi M 3 a34)) : Int32) - 1) (fun (x_36 : Int32) => (cF_X1_hearAck_38 a x1 x2 t0 x_36 M))))) := rfl
set_option maxRecDepth 100000 in
set_option maxHeartbeats 4000000 in
theorem cS_X1_hearAck_25 {Q Post : z_Mem → Prop} {a : Nat} {x1 : Option Nat} {x2 : Option Nat} {t0 : Int32} {M : z_Mem} (H : P_X1_hearAck_25 a Q x1 x2 t0 M) (K : ∀ M1, Q M1 → cF_X1_hearAck_25 a x1 x2 t0 M = M1 → Post M1) : P_X1_hearAck_25 a Post x1 x2 t0 M := by
  have hF := cE_X1_hearAck_25 a x1 x2 t0 M
  unfold P_X1_hearAck_25 at H ⊢
  obtain ⟨a34, e_a34, H⟩ := H
  refine z_nn_of e_a34 ?_
  replace hF := hF.trans (q_ste (q_gd e_a34))
  intro x_36 e_x_36
  replace H := H x_36 e_x_36
  replace hF := hF.trans (q_ste e_x_36)
  obtain ⟨m, H⟩ := H
  refine ⟨m, ?_⟩
  exact cS_X1_hearAck_38 m H (fun M1 q u => K M1 q (hF.trans u))
set_option maxRecDepth 100000 in
noncomputable def cF_X1_hearAck_24 (a : Nat) (x1 : Option Nat) (x2 : Option Nat) (M : z_Mem) : z_Mem := (cF_X1_hearAck_25 a x1 x2 0 M)
set_option maxRecDepth 100000 in
theorem cE_X1_hearAck_24 (a : Nat) (x1 : Option Nat) (x2 : Option Nat) (M : z_Mem) : cF_X1_hearAck_24 a x1 x2 M = (cF_X1_hearAck_25 a x1 x2 0 M) := rfl
set_option maxRecDepth 100000 in
set_option maxHeartbeats 4000000 in
theorem cS_X1_hearAck_24 {Q Post : z_Mem → Prop} {a : Nat} {x1 : Option Nat} {x2 : Option Nat} {M : z_Mem} (H : P_X1_hearAck_24 a Q x1 x2 M) (K : ∀ M1, Q M1 → cF_X1_hearAck_24 a x1 x2 M = M1 → Post M1) : P_X1_hearAck_24 a Post x1 x2 M := by
  have hF := cE_X1_hearAck_24 a x1 x2 M
  unfold P_X1_hearAck_24 at H ⊢
  exact cS_X1_hearAck_25 H (fun M1 q u => K M1 q (hF.trans u))
set_option maxRecDepth 100000 in
noncomputable def cF_X1_hearAck (a : Nat) (p1 : Option Nat) (M : z_Mem) : z_Mem := (q_st (Option.getD p1 0) (fun (a39 : Nat) => (q_st2 (cF_X0_greatest a39 M) (fun (x_38 : Int32) (M_38 : z_Mem) => (q_st2 (cF_X1_packetAt a x_38 M_38) (fun (x_40 : Option Nat) (M_40 : z_Mem) => (q_op x_40 (cF_X1_hearAck_24 a p1 x_40 M_40) (fun a41 => (if ((z_fi M_40 778 a41) = 0) then (cF_X1_hearAck_25 a p1 x_40 1 M_40) else (cF_X1_hearAck_24 a p1 x_40 M_40))))))))))
set_option maxRecDepth 100000 in
theorem cE_X1_hearAck (a : Nat) (p1 : Option Nat) (M : z_Mem) : cF_X1_hearAck a p1 M = (q_st (Option.getD p1 0) (fun (a39 : Nat) => (q_st2 (cF_X0_greatest a39 M) (fun (x_38 : Int32) (M_38 : z_Mem) => (q_st2 (cF_X1_packetAt a x_38 M_38) (fun (x_40 : Option Nat) (M_40 : z_Mem) => (q_op x_40 (cF_X1_hearAck_24 a p1 x_40 M_40) (fun a41 => (if ((z_fi M_40 778 a41) = 0) then (cF_X1_hearAck_25 a p1 x_40 1 M_40) else (cF_X1_hearAck_24 a p1 x_40 M_40)))))))))) := rfl
set_option maxRecDepth 100000 in
set_option maxHeartbeats 4000000 in
theorem cS_X1_hearAck {Q Post : z_Mem → Prop} {a : Nat} {p1 : Option Nat} {M : z_Mem} (H : P_X1_hearAck a p1 M Q) (K : ∀ M1, Q M1 → cF_X1_hearAck a p1 M = M1 → Post M1) : P_X1_hearAck a p1 M Post := by
  have hF := cE_X1_hearAck a p1 M
  unfold P_X1_hearAck at H ⊢
  obtain ⟨a39, e_a39, H⟩ := H
  refine z_nn_of e_a39 ?_
  replace hF := hF.trans (q_ste (q_gd e_a39))
  refine cS_X0_greatest H (fun x_38 M_38 H u => ?_)
  replace hF := hF.trans (q_ste2 u)
  refine cS_X1_packetAt H (fun x_40 M_40 H u => ?_)
  replace hF := hF.trans (q_ste2 u)
  refine And.intro (fun c1 => ?_) (fun a41 c1 => ?_)
  · replace H := H.1 c1
    replace hF := hF.trans (q_opn c1)
    exact cS_X1_hearAck_24 H (fun M1 q u => K M1 q (hF.trans u))
  · replace H := H.2 a41 c1
    replace hF := hF.trans (q_ops c1)
    refine And.intro (fun c2 => ?_) (fun c2 => ?_)
    · replace H := H.1 c2
      replace hF := hF.trans (if_pos c2)
      exact cS_X1_hearAck_25 H (fun M1 q u => K M1 q (hF.trans u))
    · replace H := H.2 c2
      replace hF := hF.trans (if_neg c2)
      exact cS_X1_hearAck_24 H (fun M1 q u => K M1 q (hF.trans u))
set_option maxRecDepth 100000 in
noncomputable def cF_X1_hear_92 (a : Nat) (x1 : Option Nat) (x2 : Int32) (M : z_Mem) : z_Mem := (q_st (Option.getD x1 0) (fun (a1 : Nat) => (if ((z_fi M 512 a1) = 2) then (if (x2 = 0) then (q_op (z_fr M 516 a1) M (fun a11 => (if (x2 = 0) then (q_st (cF_X1_hearAck a (z_fr M 516 a1) M) (fun (M_14 : z_Mem) => M_14)) else M))) else (q_st (cF_X1_hearAccept a (z_fi M 519 a1) M) (fun (M_16 : z_Mem) => M_16))) else (q_op (z_fr M 516 a1) M (fun a5 => (if (x2 = 0) then (q_st (cF_X1_hearAck a (z_fr M 516 a1) M) (fun (M_8 : z_Mem) => M_8)) else M))))))
set_option maxRecDepth 100000 in
theorem cE_X1_hear_92 (a : Nat) (x1 : Option Nat) (x2 : Int32) (M : z_Mem) : cF_X1_hear_92 a x1 x2 M = (q_st (Option.getD x1 0) (fun (a1 : Nat) => (if ((z_fi M 512 a1) = 2) then (if (x2 = 0) then (q_op (z_fr M 516 a1) M (fun a11 => (if (x2 = 0) then (q_st (cF_X1_hearAck a (z_fr M 516 a1) M) (fun (M_14 : z_Mem) => M_14)) else M))) else (q_st (cF_X1_hearAccept a (z_fi M 519 a1) M) (fun (M_16 : z_Mem) => M_16))) else (q_op (z_fr M 516 a1) M (fun a5 => (if (x2 = 0) then (q_st (cF_X1_hearAck a (z_fr M 516 a1) M) (fun (M_8 : z_Mem) => M_8)) else M)))))) := rfl
set_option maxRecDepth 100000 in
set_option maxHeartbeats 4000000 in
theorem cS_X1_hear_92 {Q Post : z_Mem → Prop} {a : Nat} {x1 : Option Nat} {x2 : Int32} {M : z_Mem} (H : P_X1_hear_92 a Q x1 x2 M) (K : ∀ M1, Q M1 → cF_X1_hear_92 a x1 x2 M = M1 → Post M1) : P_X1_hear_92 a Post x1 x2 M := by
  have hF := cE_X1_hear_92 a x1 x2 M
  unfold P_X1_hear_92 at H ⊢
  obtain ⟨a1, e_a1, H⟩ := H
  refine z_nn_of e_a1 ?_
  replace hF := hF.trans (q_ste (q_gd e_a1))
  refine And.intro (fun c1 => ?_) (fun c1 => ?_)
  · replace H := H.1 c1
    replace hF := hF.trans (if_pos c1)
    refine And.intro (fun c2 => ?_) (fun c2 => ?_)
    · replace H := H.1 c2
      replace hF := hF.trans (if_pos c2)
      refine And.intro (fun c3 => ?_) (fun a11 c3 => ?_)
      · replace H := H.1 c3
        replace hF := hF.trans (q_opn c3)
        exact K _ H hF
      · replace H := H.2 a11 c3
        replace hF := hF.trans (q_ops c3)
        refine And.intro (fun c4 => ?_) (fun c4 => ?_)
        · replace H := H.1 c4
          replace hF := hF.trans (if_pos c4)
          refine cS_X1_hearAck H (fun M_14 H u => ?_)
          replace hF := hF.trans (q_ste u.symm)
          exact K _ H hF
        · replace H := H.2 c4
          replace hF := hF.trans (if_neg c4)
          exact K _ H hF
    · replace H := H.2 c2
      replace hF := hF.trans (if_neg c2)
      refine cS_X1_hearAccept H (fun M_16 H u => ?_)
      replace hF := hF.trans (q_ste u.symm)
      exact K _ H hF
  · replace H := H.2 c1
    replace hF := hF.trans (if_neg c1)
    refine And.intro (fun c5 => ?_) (fun a5 c5 => ?_)
    · replace H := H.1 c5
      replace hF := hF.trans (q_opn c5)
      exact K _ H hF
    · replace H := H.2 a5 c5
      replace hF := hF.trans (q_ops c5)
      refine And.intro (fun c6 => ?_) (fun c6 => ?_)
      · replace H := H.1 c6
        replace hF := hF.trans (if_pos c6)
        refine cS_X1_hearAck H (fun M_8 H u => ?_)
        replace hF := hF.trans (q_ste u.symm)
        exact K _ H hF
      · replace H := H.2 c6
        replace hF := hF.trans (if_neg c6)
        exact K _ H hF
set_option maxRecDepth 100000 in
noncomputable def cF_X1_hear_13 (a : Nat) (x1 : Option Nat) (t0 : Int32) (M : z_Mem) : z_Mem := (q_st (Option.getD x1 0) (fun (a17 : Nat) => (if ((z_fi M 512 a17) = 8) then (q_st (z_sfi M 135 a 5) (fun (M_34 : z_Mem) => M_34)) else (if ((z_fi M 512 a17) = 6) then (q_st2 (cF_X1_routeOf a (z_fi M 513 a17) M) (fun (x_31 : Option Nat) (M_31 : z_Mem) => (q_st (Option.getD x_31 0) (fun (a32 : Nat) => (q_st (z_sfi M_31 898 a32 1) (fun (M_33 : z_Mem) => M_33)))))) else (if ((z_fi M 512 a17) = 1) then (if (t0 = 0) then (cF_X1_hear_92 a x1 t0 M) else (if ((z_fi M 137 a) = 0) then (q_st (z_sfi M 137 a 1) (fun (M_27 : z_Mem) => (q_st (z_sfi M_27 140 a 10) (fun (M_28 : z_Mem) => (q_st (cF_X1_sayHello a M_28) (fun (M_29 : z_Mem) => M_29)))))) else (cF_X1_hear_92 a x1 t0 M))) else (cF_X1_hear_92 a x1 t0 M))))))
set_option maxRecDepth 100000 in
theorem cE_X1_hear_13 (a : Nat) (x1 : Option Nat) (t0 : Int32) (M : z_Mem) : cF_X1_hear_13 a x1 t0 M = (q_st (Option.getD x1 0) (fun (a17 : Nat) => (if ((z_fi M 512 a17) = 8) then (q_st (z_sfi M 135 a 5) (fun (M_34 : z_Mem) => M_34)) else (if ((z_fi M 512 a17) = 6) then (q_st2 (cF_X1_routeOf a (z_fi M 513 a17) M) (fun (x_31 : Option Nat) (M_31 : z_Mem) => (q_st (Option.getD x_31 0) (fun (a32 : Nat) => (q_st (z_sfi M_31 898 a32 1) (fun (M_33 : z_Mem) => M_33)))))) else (if ((z_fi M 512 a17) = 1) then (if (t0 = 0) then (cF_X1_hear_92 a x1 t0 M) else (if ((z_fi M 137 a) = 0) then (q_st (z_sfi M 137 a 1) (fun (M_27 : z_Mem) => (q_st (z_sfi M_27 140 a 10) (fun (M_28 : z_Mem) => (q_st (cF_X1_sayHello a M_28) (fun (M_29 : z_Mem) => M_29)))))) else (cF_X1_hear_92 a x1 t0 M))) else (cF_X1_hear_92 a x1 t0 M)))))) := rfl
set_option maxRecDepth 100000 in
set_option maxHeartbeats 4000000 in
theorem cS_X1_hear_13 {Q Post : z_Mem → Prop} {a : Nat} {x1 : Option Nat} {t0 : Int32} {M : z_Mem} (H : P_X1_hear_13 a Q x1 t0 M) (K : ∀ M1, Q M1 → cF_X1_hear_13 a x1 t0 M = M1 → Post M1) : P_X1_hear_13 a Post x1 t0 M := by
  have hF := cE_X1_hear_13 a x1 t0 M
  unfold P_X1_hear_13 at H ⊢
  obtain ⟨a17, e_a17, H⟩ := H
  refine z_nn_of e_a17 ?_
  replace hF := hF.trans (q_ste (q_gd e_a17))
  refine And.intro (fun c1 => ?_) (fun c1 => ?_)
  · replace H := H.1 c1
    replace hF := hF.trans (if_pos c1)
    intro M_34 e_M_34
    replace H := H M_34 e_M_34
    replace hF := hF.trans (q_ste e_M_34)
    exact K _ H hF
  · replace H := H.2 c1
    replace hF := hF.trans (if_neg c1)
    refine And.intro (fun c2 => ?_) (fun c2 => ?_)
    · replace H := H.1 c2
      replace hF := hF.trans (if_pos c2)
      refine cS_X1_routeOf H (fun x_31 M_31 H u => ?_)
      replace hF := hF.trans (q_ste2 u)
      obtain ⟨a32, e_a32, H⟩ := H
      refine z_nn_of e_a32 ?_
      replace hF := hF.trans (q_ste (q_gd e_a32))
      intro M_33 e_M_33
      replace H := H M_33 e_M_33
      replace hF := hF.trans (q_ste e_M_33)
      exact K _ H hF
    · replace H := H.2 c2
      replace hF := hF.trans (if_neg c2)
      refine And.intro (fun c3 => ?_) (fun c3 => ?_)
      · replace H := H.1 c3
        replace hF := hF.trans (if_pos c3)
        refine And.intro (fun c4 => ?_) (fun c4 => ?_)
        · replace H := H.1 c4
          replace hF := hF.trans (if_pos c4)
          exact cS_X1_hear_92 H (fun M1 q u => K M1 q (hF.trans u))
        · replace H := H.2 c4
          replace hF := hF.trans (if_neg c4)
          refine And.intro (fun c5 => ?_) (fun c5 => ?_)
          · replace H := H.1 c5
            replace hF := hF.trans (if_pos c5)
            intro M_27 e_M_27
            replace H := H M_27 e_M_27
            replace hF := hF.trans (q_ste e_M_27)
            intro M_28 e_M_28
            replace H := H M_28 e_M_28
            replace hF := hF.trans (q_ste e_M_28)
            refine cS_X1_sayHello H (fun M_29 H u => ?_)
            replace hF := hF.trans (q_ste u.symm)
            exact K _ H hF
          · replace H := H.2 c5
            replace hF := hF.trans (if_neg c5)
            exact cS_X1_hear_92 H (fun M1 q u => K M1 q (hF.trans u))
      · replace H := H.2 c3
        replace hF := hF.trans (if_neg c3)
        exact cS_X1_hear_92 H (fun M1 q u => K M1 q (hF.trans u))
set_option maxRecDepth 100000 in
noncomputable def cF_X1_hear (a : Nat) (p1 : Option Nat) (M : z_Mem) : z_Mem := (if ((z_fi M 135 a) = 1) then (cF_X1_hear_13 a p1 1 M) else (cF_X1_hear_13 a p1 0 M))
set_option maxRecDepth 100000 in
theorem cE_X1_hear (a : Nat) (p1 : Option Nat) (M : z_Mem) : cF_X1_hear a p1 M = (if ((z_fi M 135 a) = 1) then (cF_X1_hear_13 a p1 1 M) else (cF_X1_hear_13 a p1 0 M)) := rfl
set_option maxRecDepth 100000 in
set_option maxHeartbeats 4000000 in
theorem cS_X1_hear {Q Post : z_Mem → Prop} {a : Nat} {p1 : Option Nat} {M : z_Mem} (H : P_X1_hear a p1 M Q) (K : ∀ M1, Q M1 → cF_X1_hear a p1 M = M1 → Post M1) : P_X1_hear a p1 M Post := by
  have hF := cE_X1_hear a p1 M
  unfold P_X1_hear at H ⊢
  refine And.intro (fun c1 => ?_) (fun c1 => ?_)
  · replace H := H.1 c1
    replace hF := hF.trans (if_pos c1)
    exact cS_X1_hear_13 H (fun M1 q u => K M1 q (hF.trans u))
  · replace H := H.2 c1
    replace hF := hF.trans (if_neg c1)
    exact cS_X1_hear_13 H (fun M1 q u => K M1 q (hF.trans u))
set_option maxRecDepth 100000 in
noncomputable def cF_X1_hearAll_69 (a : Nat) (x1 : Int32) (M : z_Mem) : ((Int32 × z_Mem) ⊕ z_Mem) := (q_st (x1 + (-1)) (fun (x_1 : Int32) => (.inl (x_1, M))))
set_option maxRecDepth 100000 in
theorem cE_X1_hearAll_69 (a : Nat) (x1 : Int32) (M : z_Mem) : cF_X1_hearAll_69 a x1 M = (q_st (x1 + (-1)) (fun (x_1 : Int32) => (.inl (x_1, M)))) := rfl
set_option maxRecDepth 100000 in
set_option maxHeartbeats 4000000 in
theorem cS_X1_hearAll_69 {Q Post : z_Mem → Prop} {a : Nat} {x1 : Int32} {QJ11 PJ11 : Int32 → z_Mem → Prop} {M : z_Mem} (H : P_X1_hearAll_69 a Q QJ11 x1 M) (K : ∀ M1, Q M1 → cF_X1_hearAll_69 a x1 M = (.inr M1) → Post M1) (KJ11 : ∀ v0 M1, QJ11 v0 M1 → cF_X1_hearAll_69 a x1 M = (.inl (v0, M1)) → PJ11 v0 M1) : P_X1_hearAll_69 a Post PJ11 x1 M := by
  have hF := cE_X1_hearAll_69 a x1 M
  unfold P_X1_hearAll_69 at H ⊢
  intro x_1 e_x_1
  replace H := H x_1 e_x_1
  replace hF := hF.trans (q_ste e_x_1)
  exact KJ11 _ _ H hF
set_option maxRecDepth 100000 in
noncomputable def cF_X1_hearAll_64 (a : Nat) (x1 : Int32) (x2 : Option Nat) (M : z_Mem) : ((Int32 × z_Mem) ⊕ z_Mem) := (q_st (cF_X1_hear a x2 M) (fun (M_2 : z_Mem) => (cF_X1_hearAll_69 a x1 M_2)))
set_option maxRecDepth 100000 in
theorem cE_X1_hearAll_64 (a : Nat) (x1 : Int32) (x2 : Option Nat) (M : z_Mem) : cF_X1_hearAll_64 a x1 x2 M = (q_st (cF_X1_hear a x2 M) (fun (M_2 : z_Mem) => (cF_X1_hearAll_69 a x1 M_2))) := rfl
set_option maxRecDepth 100000 in
set_option maxHeartbeats 4000000 in
theorem cS_X1_hearAll_64 {Q Post : z_Mem → Prop} {a : Nat} {x1 : Int32} {x2 : Option Nat} {QJ11 PJ11 : Int32 → z_Mem → Prop} {M : z_Mem} (H : P_X1_hearAll_64 a Q QJ11 x1 x2 M) (K : ∀ M1, Q M1 → cF_X1_hearAll_64 a x1 x2 M = (.inr M1) → Post M1) (KJ11 : ∀ v0 M1, QJ11 v0 M1 → cF_X1_hearAll_64 a x1 x2 M = (.inl (v0, M1)) → PJ11 v0 M1) : P_X1_hearAll_64 a Post PJ11 x1 x2 M := by
  have hF := cE_X1_hearAll_64 a x1 x2 M
  unfold P_X1_hearAll_64 at H ⊢
  refine cS_X1_hear H (fun M_2 H u => ?_)
  replace hF := hF.trans (q_ste u.symm)
  exact cS_X1_hearAll_69 H (fun M1 q u => K M1 q (hF.trans u)) (fun v0 M1 q u => KJ11 v0 M1 q (hF.trans u))
set_option maxRecDepth 100000 in
noncomputable def cB_X1_hearAll_11 (a : Nat) (x1 : Int32) (M : z_Mem) : (Int32 × z_Mem) ⊕ z_Mem := (if (x1 ≤ 0) then (.inr M) else (q_st (Option.getD (z_fr M 128 a) 0) (fun (a5 : Nat) => (q_st (Option.getD (z_fr M 128 a) 0) (fun (a8 : Nat) => (q_st (Option.getD (z_fr M 643 a5) 0) (fun (a11 : Nat) => (q_st2 (cF_X10_takeDue a11 (z_fi M 645 a8) M) (fun (x_10 : Option Nat) (M_10 : z_Mem) => (q_op x_10 (.inr M_10) (fun a12 => (if ((z_fi M_10 135 a) = 1) then (cF_X1_hearAll_64 a x1 x_10 M_10) else (if ((z_fi M_10 135 a) = 2) then (cF_X1_hearAll_64 a x1 x_10 M_10) else (if ((z_fi M_10 135 a) = 3) then (cF_X1_hearAll_64 a x1 x_10 M_10) else (cF_X1_hearAll_69 a x1 M_10)))))))))))))))
set_option maxRecDepth 100000 in
noncomputable def cF_X1_hearAll_11 (a : Nat) (x1 : Int32) (M : z_Mem) : z_Mem := q_lp (X := (Int32 × z_Mem)) (Y := z_Mem) M (fun t => cB_X1_hearAll_11 a t.1 t.2) (x1, M)
set_option maxRecDepth 100000 in
theorem cUl_X1_hearAll_11 {a : Nat} {x1 : Int32} {M : z_Mem} {y_x1 : Int32} {M1 : z_Mem} (h : cB_X1_hearAll_11 a x1 M = .inl (y_x1, M1)) : cF_X1_hearAll_11 a x1 M = cF_X1_hearAll_11 a y_x1 M1 := q_lpl (step := fun t => cB_X1_hearAll_11 a t.1 t.2) h
set_option maxRecDepth 100000 in
theorem cUr_X1_hearAll_11 {a : Nat} {x1 : Int32} {M : z_Mem} {y : z_Mem} (h : cB_X1_hearAll_11 a x1 M = .inr y) : cF_X1_hearAll_11 a x1 M = y := q_lpr (step := fun t => cB_X1_hearAll_11 a t.1 t.2) h
set_option maxRecDepth 100000 in
theorem cE_X1_hearAll_11 (a : Nat) (x1 : Int32) (M : z_Mem) : cB_X1_hearAll_11 a x1 M = (if (x1 ≤ 0) then (.inr M) else (q_st (Option.getD (z_fr M 128 a) 0) (fun (a5 : Nat) => (q_st (Option.getD (z_fr M 128 a) 0) (fun (a8 : Nat) => (q_st (Option.getD (z_fr M 643 a5) 0) (fun (a11 : Nat) => (q_st2 (cF_X10_takeDue a11 (z_fi M 645 a8) M) (fun (x_10 : Option Nat) (M_10 : z_Mem) => (q_op x_10 (.inr M_10) (fun a12 => (if ((z_fi M_10 135 a) = 1) then (cF_X1_hearAll_64 a x1 x_10 M_10) else (if ((z_fi M_10 135 a) = 2) then (cF_X1_hearAll_64 a x1 x_10 M_10) else (if ((z_fi M_10 135 a) = 3) then (cF_X1_hearAll_64 a x1 x_10 M_10) else (cF_X1_hearAll_69 a x1 M_10))))))))))))))) := rfl
set_option maxRecDepth 100000 in
set_option maxHeartbeats 4000000 in
theorem cS_X1_hearAll_11 {Q Post : z_Mem → Prop} {a : Nat} : ∀ (m : Nat) {x1 : Int32} {M : z_Mem} (H : P_X1_hearAll_11 a Q m x1 M) (K : ∀ M1, Q M1 → cF_X1_hearAll_11 a x1 M = M1 → Post M1), P_X1_hearAll_11 a Post m x1 M := by
  intro m
  induction m with
  | zero => intros; rename_i H _; exact False.elim H
  | succ m ih =>
    intro x1 M H K
    have hF := cE_X1_hearAll_11 a x1 M
    unfold P_X1_hearAll_11 at H ⊢
    refine And.intro (fun c1 => ?_) (fun c1 => ?_)
    · replace H := H.1 c1
      replace hF := hF.trans (if_pos c1)
      exact K _ H (cUr_X1_hearAll_11 hF)
    · replace H := H.2 c1
      replace hF := hF.trans (if_neg c1)
      obtain ⟨a5, e_a5, H⟩ := H
      refine z_nn_of e_a5 ?_
      replace hF := hF.trans (q_ste (q_gd e_a5))
      obtain ⟨a8, e_a8, H⟩ := H
      refine z_nn_of e_a8 ?_
      replace hF := hF.trans (q_ste (q_gd e_a8))
      obtain ⟨a11, e_a11, H⟩ := H
      refine z_nn_of e_a11 ?_
      replace hF := hF.trans (q_ste (q_gd e_a11))
      refine cS_X10_takeDue H (fun x_10 M_10 H u => ?_)
      replace hF := hF.trans (q_ste2 u)
      refine And.intro (fun c2 => ?_) (fun a12 c2 => ?_)
      · replace H := H.1 c2
        replace hF := hF.trans (q_opn c2)
        exact K _ H (cUr_X1_hearAll_11 hF)
      · replace H := H.2 a12 c2
        replace hF := hF.trans (q_ops c2)
        refine And.intro (fun c3 => ?_) (fun c3 => ?_)
        · replace H := H.1 c3
          replace hF := hF.trans (if_pos c3)
          exact cS_X1_hearAll_64 H (fun M1 q u => K M1 q (cUr_X1_hearAll_11 (hF.trans u))) (fun v0 M1 q u => ih q (fun M1 q u2 => K M1 q ((cUl_X1_hearAll_11 (hF.trans u)).trans u2))) 
        · replace H := H.2 c3
          replace hF := hF.trans (if_neg c3)
          refine And.intro (fun c4 => ?_) (fun c4 => ?_)
          · replace H := H.1 c4
            replace hF := hF.trans (if_pos c4)
            exact cS_X1_hearAll_64 H (fun M1 q u => K M1 q (cUr_X1_hearAll_11 (hF.trans u))) (fun v0 M1 q u => ih q (fun M1 q u2 => K M1 q ((cUl_X1_hearAll_11 (hF.trans u)).trans u2))) 
          · replace H := H.2 c4
            replace hF := hF.trans (if_neg c4)
            refine And.intro (fun c5 => ?_) (fun c5 => ?_)
            · replace H := H.1 c5
              replace hF := hF.trans (if_pos c5)
              exact cS_X1_hearAll_64 H (fun M1 q u => K M1 q (cUr_X1_hearAll_11 (hF.trans u))) (fun v0 M1 q u => ih q (fun M1 q u2 => K M1 q ((cUl_X1_hearAll_11 (hF.trans u)).trans u2))) 
            · replace H := H.2 c5
              replace hF := hF.trans (if_neg c5)
              exact cS_X1_hearAll_69 H (fun M1 q u => K M1 q (cUr_X1_hearAll_11 (hF.trans u))) (fun v0 M1 q u => ih q (fun M1 q u2 => K M1 q ((cUl_X1_hearAll_11 (hF.trans u)).trans u2))) 
set_option maxRecDepth 100000 in
noncomputable def cF_X1_hearAll (a : Nat) (M : z_Mem) : z_Mem := (q_st (Option.getD (z_fr M 128 a) 0) (fun (a20 : Nat) => (q_st (Option.getD (z_fr M 643 a20) 0) (fun (a22 : Nat) => (q_st (z_fi M 1281 a22) (fun (x_24 : Int32) => (cF_X1_hearAll_11 a x_24 M)))))))
set_option maxRecDepth 100000 in
theorem cE_X1_hearAll (a : Nat) (M : z_Mem) : cF_X1_hearAll a M = (q_st (Option.getD (z_fr M 128 a) 0) (fun (a20 : Nat) => (q_st (Option.getD (z_fr M 643 a20) 0) (fun (a22 : Nat) => (q_st (z_fi M 1281 a22) (fun (x_24 : Int32) => (cF_X1_hearAll_11 a x_24 M))))))) := rfl
set_option maxRecDepth 100000 in
set_option maxHeartbeats 4000000 in
theorem cS_X1_hearAll {Q Post : z_Mem → Prop} {a : Nat} {M : z_Mem} (H : P_X1_hearAll a M Q) (K : ∀ M1, Q M1 → cF_X1_hearAll a M = M1 → Post M1) : P_X1_hearAll a M Post := by
  have hF := cE_X1_hearAll a M
  unfold P_X1_hearAll at H ⊢
  obtain ⟨a20, e_a20, H⟩ := H
  refine z_nn_of e_a20 ?_
  replace hF := hF.trans (q_ste (q_gd e_a20))
  obtain ⟨a22, e_a22, H⟩ := H
  refine z_nn_of e_a22 ?_
  replace hF := hF.trans (q_ste (q_gd e_a22))
  intro x_24 e_x_24
  replace H := H x_24 e_x_24
  replace hF := hF.trans (q_ste e_x_24)
  obtain ⟨m, H⟩ := H
  refine ⟨m, ?_⟩
  exact cS_X1_hearAll_11 m H (fun M1 q u => K M1 q (hF.trans u))
set_option maxRecDepth 100000 in
noncomputable def cF_X7_isProbeDue (a : Nat) (p1 : Int32) (M : z_Mem) : (Int32 × z_Mem) := (q_st ((((z_fi M 900 a) / 8) + ((if (1 < (z_fi M 901 a)) then (z_fi M 901 a) else 1) : Int32)) + 3) (fun (x_3 : Int32) => (if ((z_fi M 899 a) ≤ 0) then (0, M) else (if ((p1 - (z_fi M 908 a)) < (x_3 <<< (((if (6 < (z_fi M 910 a)) then 6 else (z_fi M 910 a)) : Int32) &&& 31))) then (0, M) else (1, M)))))
set_option maxRecDepth 100000 in
theorem cE_X7_isProbeDue (a : Nat) (p1 : Int32) (M : z_Mem) : cF_X7_isProbeDue a p1 M = (q_st ((((z_fi M 900 a) / 8) + ((if (1 < (z_fi M 901 a)) then (z_fi M 901 a) else 1) : Int32)) + 3) (fun (x_3 : Int32) => (if ((z_fi M 899 a) ≤ 0) then (0, M) else (if ((p1 - (z_fi M 908 a)) < (x_3 <<< (((if (6 < (z_fi M 910 a)) then 6 else (z_fi M 910 a)) : Int32) &&& 31))) then (0, M) else (1, M))))) := rfl
set_option maxRecDepth 100000 in
set_option maxHeartbeats 4000000 in
theorem cS_X7_isProbeDue {Q Post : Int32 → z_Mem → Prop} {a : Nat} {p1 : Int32} {M : z_Mem} (H : P_X7_isProbeDue a p1 M Q) (K : ∀ x M1, Q x M1 → cF_X7_isProbeDue a p1 M = (x, M1) → Post x M1) : P_X7_isProbeDue a p1 M Post := by
  have hF := cE_X7_isProbeDue a p1 M
  unfold P_X7_isProbeDue at H ⊢
  intro x_3 e_x_3
  replace H := H x_3 e_x_3
  replace hF := hF.trans (q_ste e_x_3)
  refine And.intro (fun c1 => ?_) (fun c1 => ?_)
  · replace H := H.1 c1
    replace hF := hF.trans (if_pos c1)
    exact K _ _ H hF
  · replace H := H.2 c1
    replace hF := hF.trans (if_neg c1)
    refine And.intro (fun c2 => ?_) (fun c2 => ?_)
    · replace H := H.1 c2
      replace hF := hF.trans (if_pos c2)
      exact K _ _ H hF
    · replace H := H.2 c2
      replace hF := hF.trans (if_neg c2)
      exact K _ _ H hF
set_option maxRecDepth 100000 in
noncomputable def cF_X6_init (a : Nat) (p1 : Int32) (p2 : Int32) (p3 : Int32) (p4 : Int32) (p5 : Int32) (p6 : Int32) (M : z_Mem) : z_Mem := (q_st (z_sfi M 778 a 0) (fun (M_1 : z_Mem) => (q_st (z_sfi M_1 768 a p1) (fun (M_2 : z_Mem) => (q_st (z_sfi M_2 769 a p2) (fun (M_3 : z_Mem) => (q_st (z_sfi M_3 770 a p3) (fun (M_4 : z_Mem) => (q_st (z_sfi M_4 771 a p4) (fun (M_5 : z_Mem) => (q_st (z_sfi M_5 772 a p5) (fun (M_6 : z_Mem) => (q_st (z_sfi M_6 773 a p6) (fun (M_7 : z_Mem) => M_7))))))))))))))
set_option maxRecDepth 100000 in
theorem cE_X6_init (a : Nat) (p1 : Int32) (p2 : Int32) (p3 : Int32) (p4 : Int32) (p5 : Int32) (p6 : Int32) (M : z_Mem) : cF_X6_init a p1 p2 p3 p4 p5 p6 M = (q_st (z_sfi M 778 a 0) (fun (M_1 : z_Mem) => (q_st (z_sfi M_1 768 a p1) (fun (M_2 : z_Mem) => (q_st (z_sfi M_2 769 a p2) (fun (M_3 : z_Mem) => (q_st (z_sfi M_3 770 a p3) (fun (M_4 : z_Mem) => (q_st (z_sfi M_4 771 a p4) (fun (M_5 : z_Mem) => (q_st (z_sfi M_5 772 a p5) (fun (M_6 : z_Mem) => (q_st (z_sfi M_6 773 a p6) (fun (M_7 : z_Mem) => M_7)))))))))))))) := rfl
set_option maxRecDepth 100000 in
set_option maxHeartbeats 4000000 in
theorem cS_X6_init {Q Post : z_Mem → Prop} {a : Nat} {p1 : Int32} {p2 : Int32} {p3 : Int32} {p4 : Int32} {p5 : Int32} {p6 : Int32} {M : z_Mem} (H : P_X6_init a p1 p2 p3 p4 p5 p6 M Q) (K : ∀ M1, Q M1 → cF_X6_init a p1 p2 p3 p4 p5 p6 M = M1 → Post M1) : P_X6_init a p1 p2 p3 p4 p5 p6 M Post := by
  have hF := cE_X6_init a p1 p2 p3 p4 p5 p6 M
  unfold P_X6_init at H ⊢
  intro M_1 e_M_1
  replace H := H M_1 e_M_1
  replace hF := hF.trans (q_ste e_M_1)
  intro M_2 e_M_2
  replace H := H M_2 e_M_2
  replace hF := hF.trans (q_ste e_M_2)
  intro M_3 e_M_3
  replace H := H M_3 e_M_3
  replace hF := hF.trans (q_ste e_M_3)
  intro M_4 e_M_4
  replace H := H M_4 e_M_4
  replace hF := hF.trans (q_ste e_M_4)
  intro M_5 e_M_5
  replace H := H M_5 e_M_5
  replace hF := hF.trans (q_ste e_M_5)
  intro M_6 e_M_6
  replace H := H M_6 e_M_6
  replace hF := hF.trans (q_ste e_M_6)
  intro M_7 e_M_7
  replace H := H M_7 e_M_7
  replace hF := hF.trans (q_ste e_M_7)
  exact K _ H hF
set_option maxRecDepth 100000 in
noncomputable def cF_X9_takeOff_38 (a : Nat) (x1 : Int32) (x2 : Int32) (x3 : Int32) (M : z_Mem) : ((Int32 × Int32 × Int32 × z_Mem) ⊕ z_Mem) := (q_st (Option.getD (z_fr M 1160 a) 0) (fun (a2 : Nat) => (q_st (z_sai M a2 (x3 : Int32).toNatClampNeg ((z_ai M a2 (x3 : Int32).toNatClampNeg) + 1)) (fun (M_5 : z_Mem) => (q_st (x3 + 1) (fun (x_6 : Int32) => (.inl (x1, x2, x_6, M_5))))))))
set_option maxRecDepth 100000 in
theorem cE_X9_takeOff_38 (a : Nat) (x1 : Int32) (x2 : Int32) (x3 : Int32) (M : z_Mem) : cF_X9_takeOff_38 a x1 x2 x3 M = (q_st (Option.getD (z_fr M 1160 a) 0) (fun (a2 : Nat) => (q_st (z_sai M a2 (x3 : Int32).toNatClampNeg ((z_ai M a2 (x3 : Int32).toNatClampNeg) + 1)) (fun (M_5 : z_Mem) => (q_st (x3 + 1) (fun (x_6 : Int32) => (.inl (x1, x2, x_6, M_5)))))))) := rfl
set_option maxRecDepth 100000 in
set_option maxHeartbeats 4000000 in
theorem cS_X9_takeOff_38 {Q Post : z_Mem → Prop} {a : Nat} {x1 : Int32} {x2 : Int32} {x3 : Int32} {QJ6 PJ6 : Int32 → Int32 → Int32 → z_Mem → Prop} {M : z_Mem} (H : P_X9_takeOff_38 a Q QJ6 x1 x2 x3 M) (K : ∀ M1, Q M1 → cF_X9_takeOff_38 a x1 x2 x3 M = (.inr M1) → Post M1) (KJ6 : ∀ v0 v1 v2 M1, QJ6 v0 v1 v2 M1 → cF_X9_takeOff_38 a x1 x2 x3 M = (.inl (v0, v1, v2, M1)) → PJ6 v0 v1 v2 M1) : P_X9_takeOff_38 a Post PJ6 x1 x2 x3 M := by
  have hF := cE_X9_takeOff_38 a x1 x2 x3 M
  unfold P_X9_takeOff_38 at H ⊢
  obtain ⟨a2, e_a2, H⟩ := H
  refine z_nn_of e_a2 ?_
  replace hF := hF.trans (q_ste (q_gd e_a2))
  refine And.intro H.1 ?_
  replace H := H.2
  refine And.intro H.1 ?_
  replace H := H.2
  intro M_5 e_M_5
  replace H := H M_5 e_M_5
  replace hF := hF.trans (q_ste e_M_5)
  intro x_6 e_x_6
  replace H := H x_6 e_x_6
  replace hF := hF.trans (q_ste e_x_6)
  exact KJ6 _ _ _ _ H hF
set_option maxRecDepth 100000 in
noncomputable def cB_X9_takeOff_6 (a : Nat) (x1 : Int32) (x2 : Int32) (x3 : Int32) (M : z_Mem) : (Int32 × Int32 × Int32 × z_Mem) ⊕ z_Mem := (if ((x1 + x2) ≤ x3) then (q_st (z_sfi M 1153 a ((if ((z_fi M 1153 a) < (x1 + x2)) then (x1 + x2) else (z_fi M 1153 a)) : Int32)) (fun (M_9 : z_Mem) => (.inr M_9))) else (if (200 ≤ x3) then (q_st (z_sfi M 1153 a ((if ((z_fi M 1153 a) < (x1 + x2)) then (x1 + x2) else (z_fi M 1153 a)) : Int32)) (fun (M_12 : z_Mem) => (.inr M_12))) else (q_st2 (cF_X9_isLost a x3 M) (fun (x_13 : Int32) (M_13 : z_Mem) => (if (x_13 = 0) then (cF_X9_takeOff_38 a x1 x2 x3 M_13) else (q_st (z_sfi M_13 1155 a ((z_fi M_13 1155 a) - 1)) (fun (M_16 : z_Mem) => (cF_X9_takeOff_38 a x1 x2 x3 M_16))))))))
set_option maxRecDepth 100000 in
noncomputable def cF_X9_takeOff_6 (a : Nat) (x1 : Int32) (x2 : Int32) (x3 : Int32) (M : z_Mem) : z_Mem := q_lp (X := (Int32 × Int32 × Int32 × z_Mem)) (Y := z_Mem) M (fun t => cB_X9_takeOff_6 a t.1 t.2.1 t.2.2.1 t.2.2.2) (x1, x2, x3, M)
set_option maxRecDepth 100000 in
theorem cUl_X9_takeOff_6 {a : Nat} {x1 : Int32} {x2 : Int32} {x3 : Int32} {M : z_Mem} {y_x1 : Int32} {y_x2 : Int32} {y_x3 : Int32} {M1 : z_Mem} (h : cB_X9_takeOff_6 a x1 x2 x3 M = .inl (y_x1, y_x2, y_x3, M1)) : cF_X9_takeOff_6 a x1 x2 x3 M = cF_X9_takeOff_6 a y_x1 y_x2 y_x3 M1 := q_lpl (step := fun t => cB_X9_takeOff_6 a t.1 t.2.1 t.2.2.1 t.2.2.2) h
set_option maxRecDepth 100000 in
theorem cUr_X9_takeOff_6 {a : Nat} {x1 : Int32} {x2 : Int32} {x3 : Int32} {M : z_Mem} {y : z_Mem} (h : cB_X9_takeOff_6 a x1 x2 x3 M = .inr y) : cF_X9_takeOff_6 a x1 x2 x3 M = y := q_lpr (step := fun t => cB_X9_takeOff_6 a t.1 t.2.1 t.2.2.1 t.2.2.2) h
set_option maxRecDepth 100000 in
theorem cE_X9_takeOff_6 (a : Nat) (x1 : Int32) (x2 : Int32) (x3 : Int32) (M : z_Mem) : cB_X9_takeOff_6 a x1 x2 x3 M = (if ((x1 + x2) ≤ x3) then (q_st (z_sfi M 1153 a ((if ((z_fi M 1153 a) < (x1 + x2)) then (x1 + x2) else (z_fi M 1153 a)) : Int32)) (fun (M_9 : z_Mem) => (.inr M_9))) else (if (200 ≤ x3) then (q_st (z_sfi M 1153 a ((if ((z_fi M 1153 a) < (x1 + x2)) then (x1 + x2) else (z_fi M 1153 a)) : Int32)) (fun (M_12 : z_Mem) => (.inr M_12))) else (q_st2 (cF_X9_isLost a x3 M) (fun (x_13 : Int32) (M_13 : z_Mem) => (if (x_13 = 0) then (cF_X9_takeOff_38 a x1 x2 x3 M_13) else (q_st (z_sfi M_13 1155 a ((z_fi M_13 1155 a) - 1)) (fun (M_16 : z_Mem) => (cF_X9_takeOff_38 a x1 x2 x3 M_16)))))))) := rfl
set_option maxRecDepth 100000 in
set_option maxHeartbeats 4000000 in
theorem cS_X9_takeOff_6 {Q Post : z_Mem → Prop} {a : Nat} : ∀ (m : Nat) {x1 : Int32} {x2 : Int32} {x3 : Int32} {M : z_Mem} (H : P_X9_takeOff_6 a Q m x1 x2 x3 M) (K : ∀ M1, Q M1 → cF_X9_takeOff_6 a x1 x2 x3 M = M1 → Post M1), P_X9_takeOff_6 a Post m x1 x2 x3 M := by
  intro m
  induction m with
  | zero => intros; rename_i H _; exact False.elim H
  | succ m ih =>
    intro x1 x2 x3 M H K
    have hF := cE_X9_takeOff_6 a x1 x2 x3 M
    unfold P_X9_takeOff_6 at H ⊢
    refine And.intro (fun c1 => ?_) (fun c1 => ?_)
    · replace H := H.1 c1
      replace hF := hF.trans (if_pos c1)
      intro M_9 e_M_9
      replace H := H M_9 e_M_9
      replace hF := hF.trans (q_ste e_M_9)
      exact K _ H (cUr_X9_takeOff_6 hF)
    · replace H := H.2 c1
      replace hF := hF.trans (if_neg c1)
      refine And.intro (fun c2 => ?_) (fun c2 => ?_)
      · replace H := H.1 c2
        replace hF := hF.trans (if_pos c2)
        intro M_12 e_M_12
        replace H := H M_12 e_M_12
        replace hF := hF.trans (q_ste e_M_12)
        exact K _ H (cUr_X9_takeOff_6 hF)
      · replace H := H.2 c2
        replace hF := hF.trans (if_neg c2)
        refine cS_X9_isLost H (fun x_13 M_13 H u => ?_)
        replace hF := hF.trans (q_ste2 u)
        refine And.intro (fun c3 => ?_) (fun c3 => ?_)
        · replace H := H.1 c3
          replace hF := hF.trans (if_pos c3)
          exact cS_X9_takeOff_38 H (fun M1 q u => K M1 q (cUr_X9_takeOff_6 (hF.trans u))) (fun v0 v1 v2 M1 q u => ih q (fun M1 q u2 => K M1 q ((cUl_X9_takeOff_6 (hF.trans u)).trans u2))) 
        · replace H := H.2 c3
          replace hF := hF.trans (if_neg c3)
          intro M_16 e_M_16
          replace H := H M_16 e_M_16
          replace hF := hF.trans (q_ste e_M_16)
          exact cS_X9_takeOff_38 H (fun M1 q u => K M1 q (cUr_X9_takeOff_6 (hF.trans u))) (fun v0 v1 v2 M1 q u => ih q (fun M1 q u2 => K M1 q ((cUl_X9_takeOff_6 (hF.trans u)).trans u2))) 
set_option maxRecDepth 100000 in
noncomputable def cF_X9_takeOff (a : Nat) (p1 : Int32) (p2 : Int32) (M : z_Mem) : z_Mem := (q_st ((if (0 < p1) then p1 else 0) : Int32) (fun (x_17 : Int32) => (cF_X9_takeOff_6 a p1 p2 x_17 M)))
set_option maxRecDepth 100000 in
theorem cE_X9_takeOff (a : Nat) (p1 : Int32) (p2 : Int32) (M : z_Mem) : cF_X9_takeOff a p1 p2 M = (q_st ((if (0 < p1) then p1 else 0) : Int32) (fun (x_17 : Int32) => (cF_X9_takeOff_6 a p1 p2 x_17 M))) := rfl
set_option maxRecDepth 100000 in
set_option maxHeartbeats 4000000 in
theorem cS_X9_takeOff {Q Post : z_Mem → Prop} {a : Nat} {p1 : Int32} {p2 : Int32} {M : z_Mem} (H : P_X9_takeOff a p1 p2 M Q) (K : ∀ M1, Q M1 → cF_X9_takeOff a p1 p2 M = M1 → Post M1) : P_X9_takeOff a p1 p2 M Post := by
  have hF := cE_X9_takeOff a p1 p2 M
  unfold P_X9_takeOff at H ⊢
  intro x_17 e_x_17
  replace H := H x_17 e_x_17
  replace hF := hF.trans (q_ste e_x_17)
  obtain ⟨m, H⟩ := H
  refine ⟨m, ?_⟩
  exact cS_X9_takeOff_6 m H (fun M1 q u => K M1 q (hF.trans u))
set_option maxRecDepth 100000 in
noncomputable def cF_X1_sendPacket_79 (a : Nat) (x1 : Option Nat) (x2 : Int32) (x3 : Int32) (x4 : Int32) (x6 : Option Nat) (t0 : Option Nat) (t1 : Int32) (M : z_Mem) : z_Mem := (q_st (Option.getD t0 0) (fun (a1 : Nat) => (q_st (z_sfi M 776 a1 t1) (fun (M_2 : z_Mem) => (q_st (Option.getD x1 0) (fun (a3 : Nat) => (q_st (Option.getD x6 0) (fun (a5 : Nat) => (q_st (z_sfi M_2 780 a5 (z_fi M_2 905 a3)) (fun (M_6 : z_Mem) => (q_st (z_sfi M_6 781 a5 (z_fi M_6 907 a3)) (fun (M_8 : z_Mem) => (q_st (Option.getD (z_fr M_8 132 a) 0) (fun (a11 : Nat) => (q_st (z_sar M_8 a11 ((z_fi M_8 133 a) : Int32).toNatClampNeg x6) (fun (M_13 : z_Mem) => (q_st (z_sfi M_13 133 a ((z_fi M_13 133 a) + 1)) (fun (M_15 : z_Mem) => (q_st (z_sfi M_15 905 a3 ((z_fi M_15 905 a3) + 1)) (fun (M_17 : z_Mem) => (q_st (z_sfi M_17 899 a3 ((z_fi M_17 899 a3) + 1)) (fun (M_19 : z_Mem) => (q_st (Option.getD (z_fr M_19 128 a) 0) (fun (a21 : Nat) => (q_st (z_sfi M_19 908 a3 (z_fi M_19 645 a21)) (fun (M_23 : z_Mem) => (q_st (Option.getD (z_fr M_23 129 a) 0) (fun (a25 : Nat) => (q_st (Option.getD (z_ar M_23 a25 (x2 : Int32).toNatClampNeg) 0) (fun (a28 : Nat) => (q_st (cF_X9_takeOff a28 x3 x4 M_23) (fun (M_27 : z_Mem) => (q_st (z_new M_27 5 8) (fun (M_30 : z_Mem) => (q_st (cF_X4_init (z_sz M_27) 3 M_30) (fun (M_31 : z_Mem) => (q_st (z_sfr M_31 515 (z_sz M_27) x6) (fun (M_32 : z_Mem) => (q_st (Option.getD (z_fr M_32 128 a) 0) (fun (a36 : Nat) => (q_st (cF_X5_putToServer a36 (z_fi M_32 896 a3) (some (z_sz M_27)) M_32) (fun (M_35 : z_Mem) => M_35))))))))))))))))))))))))))))))))))))))))))
set_option maxRecDepth 100000 in
theorem cE_X1_sendPacket_79 (a : Nat) (x1 : Option Nat) (x2 : Int32) (x3 : Int32) (x4 : Int32) (x6 : Option Nat) (t0 : Option Nat) (t1 : Int32) (M : z_Mem) : cF_X1_sendPacket_79 a x1 x2 x3 x4 x6 t0 t1 M = (q_st (Option.getD t0 0) (fun (a1 : Nat) => (q_st (z_sfi M 776 a1 t1) (fun (M_2 : z_Mem) => (q_st (Option.getD x1 0) (fun (a3 : Nat) => (q_st (Option.getD x6 0) (fun (a5 : Nat) => (q_st (z_sfi M_2 780 a5 (z_fi M_2 905 a3)) (fun (M_6 : z_Mem) => (q_st (z_sfi M_6 781 a5 (z_fi M_6 907 a3)) (fun (M_8 : z_Mem) => (q_st (Option.getD (z_fr M_8 132 a) 0) (fun (a11 : Nat) => (q_st (z_sar M_8 a11 ((z_fi M_8 133 a) : Int32).toNatClampNeg x6) (fun (M_13 : z_Mem) => (q_st (z_sfi M_13 133 a ((z_fi M_13 133 a) + 1)) (fun (M_15 : z_Mem) => (q_st (z_sfi M_15 905 a3 ((z_fi M_15 905 a3) + 1)) (fun (M_17 : z_Mem) => (q_st (z_sfi M_17 899 a3 ((z_fi M_17 899 a3) + 1)) (fun (M_19 : z_Mem) => (q_st (Option.getD (z_fr M_19 128 a) 0) (fun (a21 : Nat) => (q_st (z_sfi M_19 908 a3 (z_fi M_19 645 a21)) (fun (M_23 : z_Mem) => (q_st (Option.getD (z_fr M_23 129 a) 0) (fun (a25 : Nat) => (q_st (Option.getD (z_ar M_23 a25 (x2 : Int32).toNatClampNeg) 0) (fun (a28 : Nat) => (q_st (cF_X9_takeOff a28 x3 x4 M_23) (fun (M_27 : z_Mem) => (q_st (z_new M_27 5 8) (fun (M_30 : z_Mem) => (q_st (cF_X4_init (z_sz M_27) 3 M_30) (fun (M_31 : z_Mem) => (q_st (z_sfr M_31 515 (z_sz M_27) x6) (fun (M_32 : z_Mem) => (q_st (Option.getD (z_fr M_32 128 a) 0) (fun (a36 : Nat) => (q_st (cF_X5_putToServer a36 (z_fi M_32 896 a3) (some (z_sz M_27)) M_32) (fun (M_35 : z_Mem) => M_35)))))))))))))))))))))))))))))))))))))))))) := rfl
set_option maxRecDepth 100000 in
set_option maxHeartbeats 4000000 in
theorem cS_X1_sendPacket_79 {Q Post : z_Mem → Prop} {a : Nat} {x1 : Option Nat} {x2 : Int32} {x3 : Int32} {x4 : Int32} {x6 : Option Nat} {t0 : Option Nat} {t1 : Int32} {M : z_Mem} (H : P_X1_sendPacket_79 a Q x1 x2 x3 x4 x6 t0 t1 M) (K : ∀ M1, Q M1 → cF_X1_sendPacket_79 a x1 x2 x3 x4 x6 t0 t1 M = M1 → Post M1) : P_X1_sendPacket_79 a Post x1 x2 x3 x4 x6 t0 t1 M := by
  have hF := cE_X1_sendPacket_79 a x1 x2 x3 x4 x6 t0 t1 M
  unfold P_X1_sendPacket_79 at H ⊢
  obtain ⟨a1, e_a1, H⟩ := H
  refine z_nn_of e_a1 ?_
  replace hF := hF.trans (q_ste (q_gd e_a1))
  intro M_2 e_M_2
  replace H := H M_2 e_M_2
  replace hF := hF.trans (q_ste e_M_2)
  obtain ⟨a3, e_a3, H⟩ := H
  refine z_nn_of e_a3 ?_
  replace hF := hF.trans (q_ste (q_gd e_a3))
  obtain ⟨a5, e_a5, H⟩ := H
  refine z_nn_of e_a5 ?_
  replace hF := hF.trans (q_ste (q_gd e_a5))
  intro M_6 e_M_6
  replace H := H M_6 e_M_6
  replace hF := hF.trans (q_ste e_M_6)
  intro M_8 e_M_8
  replace H := H M_8 e_M_8
  replace hF := hF.trans (q_ste e_M_8)
  obtain ⟨a11, e_a11, H⟩ := H
  refine z_nn_of e_a11 ?_
  replace hF := hF.trans (q_ste (q_gd e_a11))
  refine And.intro H.1 ?_
  replace H := H.2
  intro M_13 e_M_13
  replace H := H M_13 e_M_13
  replace hF := hF.trans (q_ste e_M_13)
  intro M_15 e_M_15
  replace H := H M_15 e_M_15
  replace hF := hF.trans (q_ste e_M_15)
  intro M_17 e_M_17
  replace H := H M_17 e_M_17
  replace hF := hF.trans (q_ste e_M_17)
  intro M_19 e_M_19
  replace H := H M_19 e_M_19
  replace hF := hF.trans (q_ste e_M_19)
  obtain ⟨a21, e_a21, H⟩ := H
  refine z_nn_of e_a21 ?_
  replace hF := hF.trans (q_ste (q_gd e_a21))
  intro M_23 e_M_23
  replace H := H M_23 e_M_23
  replace hF := hF.trans (q_ste e_M_23)
  obtain ⟨a25, e_a25, H⟩ := H
  refine z_nn_of e_a25 ?_
  replace hF := hF.trans (q_ste (q_gd e_a25))
  refine And.intro H.1 ?_
  replace H := H.2
  obtain ⟨a28, e_a28, H⟩ := H
  refine z_nn_of e_a28 ?_
  replace hF := hF.trans (q_ste (q_gd e_a28))
  refine cS_X9_takeOff H (fun M_27 H u => ?_)
  replace hF := hF.trans (q_ste u.symm)
  refine And.intro H.1 ?_
  replace H := H.2
  intro M_30 e_M_30
  replace H := H M_30 e_M_30
  replace hF := hF.trans (q_ste e_M_30)
  refine cS_X4_init H (fun M_31 H u => ?_)
  replace hF := hF.trans (q_ste u.symm)
  intro M_32 e_M_32
  replace H := H M_32 e_M_32
  replace hF := hF.trans (q_ste e_M_32)
  obtain ⟨a36, e_a36, H⟩ := H
  refine z_nn_of e_a36 ?_
  replace hF := hF.trans (q_ste (q_gd e_a36))
  refine cS_X5_putToServer H (fun M_35 H u => ?_)
  replace hF := hF.trans (q_ste u.symm)
  exact K _ H hF
set_option maxRecDepth 100000 in
noncomputable def cF_X1_sendPacket (a : Nat) (p1 : Option Nat) (p2 : Int32) (p3 : Int32) (p4 : Int32) (p5 : Int32) (M : z_Mem) : z_Mem := (if (400 ≤ (z_fi M 133 a)) then M else (if (p2 < 0) then M else (if (p2 < 4) then (q_st (z_new M 7 14) (fun (M_42 : z_Mem) => (q_st (Option.getD p1 0) (fun (a44 : Nat) => (q_st (Option.getD (z_fr M_42 128 a) 0) (fun (a47 : Nat) => (q_st (cF_X6_init (z_sz M) (z_fi M_42 133 a) (z_fi M_42 896 a44) (z_fi M_42 645 a47) p2 p3 p4 M_42) (fun (M_49 : z_Mem) => (q_st (z_sfi M_49 774 (z_sz M) (z_fi M_49 142 a)) (fun (M_51 : z_Mem) => (q_st (z_sfi M_51 775 (z_sz M) p5) (fun (M_52 : z_Mem) => (if ((z_fi M_52 135 a) = 1) then (cF_X1_sendPacket_79 a p1 p2 p3 p4 (some (z_sz M)) (some (z_sz M)) 1 M_52) else (cF_X1_sendPacket_79 a p1 p2 p3 p4 (some (z_sz M)) (some (z_sz M)) 0 M_52)))))))))))))) else M)))
set_option maxRecDepth 100000 in
theorem cE_X1_sendPacket (a : Nat) (p1 : Option Nat) (p2 : Int32) (p3 : Int32) (p4 : Int32) (p5 : Int32) (M : z_Mem) : cF_X1_sendPacket a p1 p2 p3 p4 p5 M = (if (400 ≤ (z_fi M 133 a)) then M else (if (p2 < 0) then M else (if (p2 < 4) then (q_st (z_new M 7 14) (fun (M_42 : z_Mem) => (q_st (Option.getD p1 0) (fun (a44 : Nat) => (q_st (Option.getD (z_fr M_42 128 a) 0) (fun (a47 : Nat) => (q_st (cF_X6_init (z_sz M) (z_fi M_42 133 a) (z_fi M_42 896 a44) (z_fi M_42 645 a47) p2 p3 p4 M_42) (fun (M_49 : z_Mem) => (q_st (z_sfi M_49 774 (z_sz M) (z_fi M_49 142 a)) (fun (M_51 : z_Mem) => (q_st (z_sfi M_51 775 (z_sz M) p5) (fun (M_52 : z_Mem) => (if ((z_fi M_52 135 a) = 1) then (cF_X1_sendPacket_79 a p1 p2 p3 p4 (some (z_sz M)) (some (z_sz M)) 1 M_52) else (cF_X1_sendPacket_79 a p1 p2 p3 p4 (some (z_sz M)) (some (z_sz M)) 0 M_52)))))))))))))) else M))) := rfl
set_option maxRecDepth 100000 in
set_option maxHeartbeats 4000000 in
theorem cS_X1_sendPacket {Q Post : z_Mem → Prop} {a : Nat} {p1 : Option Nat} {p2 : Int32} {p3 : Int32} {p4 : Int32} {p5 : Int32} {M : z_Mem} (H : P_X1_sendPacket a p1 p2 p3 p4 p5 M Q) (K : ∀ M1, Q M1 → cF_X1_sendPacket a p1 p2 p3 p4 p5 M = M1 → Post M1) : P_X1_sendPacket a p1 p2 p3 p4 p5 M Post := by
  have hF := cE_X1_sendPacket a p1 p2 p3 p4 p5 M
  unfold P_X1_sendPacket at H ⊢
  refine And.intro (fun c1 => ?_) (fun c1 => ?_)
  · replace H := H.1 c1
    replace hF := hF.trans (if_pos c1)
    exact K _ H hF
  · replace H := H.2 c1
    replace hF := hF.trans (if_neg c1)
    refine And.intro (fun c2 => ?_) (fun c2 => ?_)
    · replace H := H.1 c2
      replace hF := hF.trans (if_pos c2)
      exact K _ H hF
    · replace H := H.2 c2
      replace hF := hF.trans (if_neg c2)
      refine And.intro (fun c3 => ?_) (fun c3 => ?_)
      · replace H := H.1 c3
        replace hF := hF.trans (if_pos c3)
        refine And.intro H.1 ?_
        replace H := H.2
        intro M_42 e_M_42
        replace H := H M_42 e_M_42
        replace hF := hF.trans (q_ste e_M_42)
        obtain ⟨a44, e_a44, H⟩ := H
        refine z_nn_of e_a44 ?_
        replace hF := hF.trans (q_ste (q_gd e_a44))
        obtain ⟨a47, e_a47, H⟩ := H
        refine z_nn_of e_a47 ?_
        replace hF := hF.trans (q_ste (q_gd e_a47))
        refine cS_X6_init H (fun M_49 H u => ?_)
        replace hF := hF.trans (q_ste u.symm)
        intro M_51 e_M_51
        replace H := H M_51 e_M_51
        replace hF := hF.trans (q_ste e_M_51)
        intro M_52 e_M_52
        replace H := H M_52 e_M_52
        replace hF := hF.trans (q_ste e_M_52)
        refine And.intro (fun c4 => ?_) (fun c4 => ?_)
        · replace H := H.1 c4
          replace hF := hF.trans (if_pos c4)
          exact cS_X1_sendPacket_79 H (fun M1 q u => K M1 q (hF.trans u))
        · replace H := H.2 c4
          replace hF := hF.trans (if_neg c4)
          exact cS_X1_sendPacket_79 H (fun M1 q u => K M1 q (hF.trans u))
      · replace H := H.2 c3
        replace hF := hF.trans (if_neg c3)
        exact K _ H hF
set_option maxRecDepth 100000 in
noncomputable def cF_X1_probeInTime_23 (a : Nat) (x1 : Option Nat) (t0 : Option Nat) (M : z_Mem) : z_Mem := (q_op t0 M (fun a1 => (if (400 ≤ (z_fi M 133 a)) then M else (q_st (Option.getD x1 0) (fun (a4 : Nat) => (q_st (z_sfi M 913 a4 ((z_fi M 913 a4) + 1)) (fun (M_6 : z_Mem) => (q_st (z_sfi M_6 910 a4 ((z_fi M_6 910 a4) + 1)) (fun (M_8 : z_Mem) => (q_st (cF_X1_sendPacket a x1 (z_fi M_8 771 a1) (z_fi M_8 772 a1) (z_fi M_8 773 a1) 1 M_8) (fun (M_12 : z_Mem) => M_12)))))))))))
set_option maxRecDepth 100000 in
theorem cE_X1_probeInTime_23 (a : Nat) (x1 : Option Nat) (t0 : Option Nat) (M : z_Mem) : cF_X1_probeInTime_23 a x1 t0 M = (q_op t0 M (fun a1 => (if (400 ≤ (z_fi M 133 a)) then M else (q_st (Option.getD x1 0) (fun (a4 : Nat) => (q_st (z_sfi M 913 a4 ((z_fi M 913 a4) + 1)) (fun (M_6 : z_Mem) => (q_st (z_sfi M_6 910 a4 ((z_fi M_6 910 a4) + 1)) (fun (M_8 : z_Mem) => (q_st (cF_X1_sendPacket a x1 (z_fi M_8 771 a1) (z_fi M_8 772 a1) (z_fi M_8 773 a1) 1 M_8) (fun (M_12 : z_Mem) => M_12))))))))))) := rfl
set_option maxRecDepth 100000 in
set_option maxHeartbeats 4000000 in
theorem cS_X1_probeInTime_23 {Q Post : z_Mem → Prop} {a : Nat} {x1 : Option Nat} {t0 : Option Nat} {M : z_Mem} (H : P_X1_probeInTime_23 a Q x1 t0 M) (K : ∀ M1, Q M1 → cF_X1_probeInTime_23 a x1 t0 M = M1 → Post M1) : P_X1_probeInTime_23 a Post x1 t0 M := by
  have hF := cE_X1_probeInTime_23 a x1 t0 M
  unfold P_X1_probeInTime_23 at H ⊢
  refine And.intro (fun c1 => ?_) (fun a1 c1 => ?_)
  · replace H := H.1 c1
    replace hF := hF.trans (q_opn c1)
    exact K _ H hF
  · replace H := H.2 a1 c1
    replace hF := hF.trans (q_ops c1)
    refine And.intro (fun c2 => ?_) (fun c2 => ?_)
    · replace H := H.1 c2
      replace hF := hF.trans (if_pos c2)
      exact K _ H hF
    · replace H := H.2 c2
      replace hF := hF.trans (if_neg c2)
      obtain ⟨a4, e_a4, H⟩ := H
      refine z_nn_of e_a4 ?_
      replace hF := hF.trans (q_ste (q_gd e_a4))
      intro M_6 e_M_6
      replace H := H M_6 e_M_6
      replace hF := hF.trans (q_ste e_M_6)
      intro M_8 e_M_8
      replace H := H M_8 e_M_8
      replace hF := hF.trans (q_ste e_M_8)
      refine cS_X1_sendPacket H (fun M_12 H u => ?_)
      replace hF := hF.trans (q_ste u.symm)
      exact K _ H hF
set_option maxRecDepth 100000 in
noncomputable def cF_X1_probeInTime (a : Nat) (p1 : Option Nat) (M : z_Mem) : z_Mem := (q_st (Option.getD (z_fr M 128 a) 0) (fun (a14 : Nat) => (q_st (Option.getD p1 0) (fun (a17 : Nat) => (q_st2 (cF_X7_isProbeDue a17 (z_fi M 645 a14) M) (fun (x_16 : Int32) (M_16 : z_Mem) => (if (x_16 = 0) then (cF_X1_probeInTime_23 a p1 none M_16) else (q_st2 (cF_X1_lowestInFlight a p1 M_16) (fun (x_19 : Option Nat) (M_19 : z_Mem) => (cF_X1_probeInTime_23 a p1 x_19 M_19))))))))))
set_option maxRecDepth 100000 in
theorem cE_X1_probeInTime (a : Nat) (p1 : Option Nat) (M : z_Mem) : cF_X1_probeInTime a p1 M = (q_st (Option.getD (z_fr M 128 a) 0) (fun (a14 : Nat) => (q_st (Option.getD p1 0) (fun (a17 : Nat) => (q_st2 (cF_X7_isProbeDue a17 (z_fi M 645 a14) M) (fun (x_16 : Int32) (M_16 : z_Mem) => (if (x_16 = 0) then (cF_X1_probeInTime_23 a p1 none M_16) else (q_st2 (cF_X1_lowestInFlight a p1 M_16) (fun (x_19 : Option Nat) (M_19 : z_Mem) => (cF_X1_probeInTime_23 a p1 x_19 M_19)))))))))) := rfl
set_option maxRecDepth 100000 in
set_option maxHeartbeats 4000000 in
theorem cS_X1_probeInTime {Q Post : z_Mem → Prop} {a : Nat} {p1 : Option Nat} {M : z_Mem} (H : P_X1_probeInTime a p1 M Q) (K : ∀ M1, Q M1 → cF_X1_probeInTime a p1 M = M1 → Post M1) : P_X1_probeInTime a p1 M Post := by
  have hF := cE_X1_probeInTime a p1 M
  unfold P_X1_probeInTime at H ⊢
  obtain ⟨a14, e_a14, H⟩ := H
  refine z_nn_of e_a14 ?_
  replace hF := hF.trans (q_ste (q_gd e_a14))
  obtain ⟨a17, e_a17, H⟩ := H
  refine z_nn_of e_a17 ?_
  replace hF := hF.trans (q_ste (q_gd e_a17))
  refine cS_X7_isProbeDue H (fun x_16 M_16 H u => ?_)
  replace hF := hF.trans (q_ste2 u)
  refine And.intro (fun c1 => ?_) (fun c1 => ?_)
  · replace H := H.1 c1
    replace hF := hF.trans (if_pos c1)
    exact cS_X1_probeInTime_23 H (fun M1 q u => K M1 q (hF.trans u))
  · replace H := H.2 c1
    replace hF := hF.trans (if_neg c1)
    refine cS_X1_lowestInFlight H (fun x_19 M_19 H u => ?_)
    replace hF := hF.trans (q_ste2 u)
    exact cS_X1_probeInTime_23 H (fun M1 q u => K M1 q (hF.trans u))
set_option maxRecDepth 100000 in
noncomputable def cF_X1_lookAfter_94 (a : Nat) (M : z_Mem) : z_Mem := (if ((z_fi M 135 a) = 3) then (q_st (Option.getD (z_fr M 128 a) 0) (fun (a4 : Nat) => (if ((z_fi M 645 a4) < (z_fi M 141 a)) then M else (q_st (z_sfi M 135 a 4) (fun (M_8 : z_Mem) => M_8))))) else M)
set_option maxRecDepth 100000 in
theorem cE_X1_lookAfter_94 (a : Nat) (M : z_Mem) : cF_X1_lookAfter_94 a M = (if ((z_fi M 135 a) = 3) then (q_st (Option.getD (z_fr M 128 a) 0) (fun (a4 : Nat) => (if ((z_fi M 645 a4) < (z_fi M 141 a)) then M else (q_st (z_sfi M 135 a 4) (fun (M_8 : z_Mem) => M_8))))) else M) := rfl
set_option maxRecDepth 100000 in
set_option maxHeartbeats 4000000 in
theorem cS_X1_lookAfter_94 {Q Post : z_Mem → Prop} {a : Nat} {M : z_Mem} (H : P_X1_lookAfter_94 a Q M) (K : ∀ M1, Q M1 → cF_X1_lookAfter_94 a M = M1 → Post M1) : P_X1_lookAfter_94 a Post M := by
  have hF := cE_X1_lookAfter_94 a M
  unfold P_X1_lookAfter_94 at H ⊢
  refine And.intro (fun c1 => ?_) (fun c1 => ?_)
  · replace H := H.1 c1
    replace hF := hF.trans (if_pos c1)
    obtain ⟨a4, e_a4, H⟩ := H
    refine z_nn_of e_a4 ?_
    replace hF := hF.trans (q_ste (q_gd e_a4))
    refine And.intro (fun c2 => ?_) (fun c2 => ?_)
    · replace H := H.1 c2
      replace hF := hF.trans (if_pos c2)
      exact K _ H hF
    · replace H := H.2 c2
      replace hF := hF.trans (if_neg c2)
      intro M_8 e_M_8
      replace H := H M_8 e_M_8
      replace hF := hF.trans (q_ste e_M_8)
      exact K _ H hF
  · replace H := H.2 c1
    replace hF := hF.trans (if_neg c1)
    exact K _ H hF
set_option maxRecDepth 100000 in
noncomputable def cF_X1_lookAfter_50 (a : Nat) (M : z_Mem) : z_Mem := (if ((z_fi M 135 a) = 1) then (q_st (Option.getD (z_fr M 128 a) 0) (fun (a12 : Nat) => (if (((z_fi M 645 a12) - (z_fi M 139 a)) < (z_fi M 140 a)) then (cF_X1_lookAfter_94 a M) else (q_st (z_sfi M 140 a ((z_fi M 140 a) * 2)) (fun (M_18 : z_Mem) => (q_st (cF_X1_sayHello a M_18) (fun (M_19 : z_Mem) => M_19))))))) else (cF_X1_lookAfter_94 a M))
set_option maxRecDepth 100000 in
theorem cE_X1_lookAfter_50 (a : Nat) (M : z_Mem) : cF_X1_lookAfter_50 a M = (if ((z_fi M 135 a) = 1) then (q_st (Option.getD (z_fr M 128 a) 0) (fun (a12 : Nat) => (if (((z_fi M 645 a12) - (z_fi M 139 a)) < (z_fi M 140 a)) then (cF_X1_lookAfter_94 a M) else (q_st (z_sfi M 140 a ((z_fi M 140 a) * 2)) (fun (M_18 : z_Mem) => (q_st (cF_X1_sayHello a M_18) (fun (M_19 : z_Mem) => M_19))))))) else (cF_X1_lookAfter_94 a M)) := rfl
set_option maxRecDepth 100000 in
set_option maxHeartbeats 4000000 in
theorem cS_X1_lookAfter_50 {Q Post : z_Mem → Prop} {a : Nat} {M : z_Mem} (H : P_X1_lookAfter_50 a Q M) (K : ∀ M1, Q M1 → cF_X1_lookAfter_50 a M = M1 → Post M1) : P_X1_lookAfter_50 a Post M := by
  have hF := cE_X1_lookAfter_50 a M
  unfold P_X1_lookAfter_50 at H ⊢
  refine And.intro (fun c1 => ?_) (fun c1 => ?_)
  · replace H := H.1 c1
    replace hF := hF.trans (if_pos c1)
    obtain ⟨a12, e_a12, H⟩ := H
    refine z_nn_of e_a12 ?_
    replace hF := hF.trans (q_ste (q_gd e_a12))
    refine And.intro (fun c2 => ?_) (fun c2 => ?_)
    · replace H := H.1 c2
      replace hF := hF.trans (if_pos c2)
      exact cS_X1_lookAfter_94 H (fun M1 q u => K M1 q (hF.trans u))
    · replace H := H.2 c2
      replace hF := hF.trans (if_neg c2)
      intro M_18 e_M_18
      replace H := H M_18 e_M_18
      replace hF := hF.trans (q_ste e_M_18)
      refine cS_X1_sayHello H (fun M_19 H u => ?_)
      replace hF := hF.trans (q_ste u.symm)
      exact K _ H hF
  · replace H := H.2 c1
    replace hF := hF.trans (if_neg c1)
    exact cS_X1_lookAfter_94 H (fun M1 q u => K M1 q (hF.trans u))
set_option maxRecDepth 100000 in
noncomputable def cF_X1_lookAfter_16 (a : Nat) (M : z_Mem) : z_Mem := (q_st (cF_X1_findLosses a (z_fr M 130 a) 0 M) (fun (M_21 : z_Mem) => (q_st (cF_X1_findLosses a (z_fr M_21 131 a) 0 M_21) (fun (M_23 : z_Mem) => (q_st (cF_X1_probeInTime a (z_fr M_23 130 a) M_23) (fun (M_25 : z_Mem) => (q_st (cF_X1_probeInTime a (z_fr M_25 131 a) M_25) (fun (M_27 : z_Mem) => (cF_X1_lookAfter_50 a M_27)))))))))
set_option maxRecDepth 100000 in
theorem cE_X1_lookAfter_16 (a : Nat) (M : z_Mem) : cF_X1_lookAfter_16 a M = (q_st (cF_X1_findLosses a (z_fr M 130 a) 0 M) (fun (M_21 : z_Mem) => (q_st (cF_X1_findLosses a (z_fr M_21 131 a) 0 M_21) (fun (M_23 : z_Mem) => (q_st (cF_X1_probeInTime a (z_fr M_23 130 a) M_23) (fun (M_25 : z_Mem) => (q_st (cF_X1_probeInTime a (z_fr M_25 131 a) M_25) (fun (M_27 : z_Mem) => (cF_X1_lookAfter_50 a M_27))))))))) := rfl
set_option maxRecDepth 100000 in
set_option maxHeartbeats 4000000 in
theorem cS_X1_lookAfter_16 {Q Post : z_Mem → Prop} {a : Nat} {M : z_Mem} (H : P_X1_lookAfter_16 a Q M) (K : ∀ M1, Q M1 → cF_X1_lookAfter_16 a M = M1 → Post M1) : P_X1_lookAfter_16 a Post M := by
  have hF := cE_X1_lookAfter_16 a M
  unfold P_X1_lookAfter_16 at H ⊢
  refine cS_X1_findLosses H (fun M_21 H u => ?_)
  replace hF := hF.trans (q_ste u.symm)
  refine cS_X1_findLosses H (fun M_23 H u => ?_)
  replace hF := hF.trans (q_ste u.symm)
  refine cS_X1_probeInTime H (fun M_25 H u => ?_)
  replace hF := hF.trans (q_ste u.symm)
  refine cS_X1_probeInTime H (fun M_27 H u => ?_)
  replace hF := hF.trans (q_ste u.symm)
  exact cS_X1_lookAfter_50 H (fun M1 q u => K M1 q (hF.trans u))
set_option maxRecDepth 100000 in
noncomputable def cF_X1_lookAfter (a : Nat) (M : z_Mem) : z_Mem := (if ((z_fi M 135 a) = 1) then (cF_X1_lookAfter_16 a M) else (if ((z_fi M 135 a) = 2) then (cF_X1_lookAfter_16 a M) else (cF_X1_lookAfter_50 a M)))
set_option maxRecDepth 100000 in
theorem cE_X1_lookAfter (a : Nat) (M : z_Mem) : cF_X1_lookAfter a M = (if ((z_fi M 135 a) = 1) then (cF_X1_lookAfter_16 a M) else (if ((z_fi M 135 a) = 2) then (cF_X1_lookAfter_16 a M) else (cF_X1_lookAfter_50 a M))) := rfl
set_option maxRecDepth 100000 in
set_option maxHeartbeats 4000000 in
theorem cS_X1_lookAfter {Q Post : z_Mem → Prop} {a : Nat} {M : z_Mem} (H : P_X1_lookAfter a M Q) (K : ∀ M1, Q M1 → cF_X1_lookAfter a M = M1 → Post M1) : P_X1_lookAfter a M Post := by
  have hF := cE_X1_lookAfter a M
  unfold P_X1_lookAfter at H ⊢
  refine And.intro (fun c1 => ?_) (fun c1 => ?_)
  · replace H := H.1 c1
    replace hF := hF.trans (if_pos c1)
    exact cS_X1_lookAfter_16 H (fun M1 q u => K M1 q (hF.trans u))
  · replace H := H.2 c1
    replace hF := hF.trans (if_neg c1)
    refine And.intro (fun c2 => ?_) (fun c2 => ?_)
    · replace H := H.1 c2
      replace hF := hF.trans (if_pos c2)
      exact cS_X1_lookAfter_16 H (fun M1 q u => K M1 q (hF.trans u))
    · replace H := H.2 c2
      replace hF := hF.trans (if_neg c2)
      exact cS_X1_lookAfter_50 H (fun M1 q u => K M1 q (hF.trans u))
set_option maxRecDepth 100000 in
noncomputable def cF_X7_mostPerTick (a : Nat) (M : z_Mem) : (Int32 × z_Mem) := (q_st (Option.getD (z_fr M 897 a) 0) (fun (a2 : Nat) => (q_st (((z_fi M 257 a2) / 16) * 2) (fun (x_4 : Int32) => (q_st ((if (1 < ((z_fi M 900 a) / 8)) then ((z_fi M 900 a) / 8) else 1) : Int32) (fun (x_6 : Int32) => (((if (2 < (((x_4 + x_6) - 1) / x_6)) then (((x_4 + x_6) - 1) / x_6) else 2) : Int32), M)))))))
set_option maxRecDepth 100000 in
theorem cE_X7_mostPerTick (a : Nat) (M : z_Mem) : cF_X7_mostPerTick a M = (q_st (Option.getD (z_fr M 897 a) 0) (fun (a2 : Nat) => (q_st (((z_fi M 257 a2) / 16) * 2) (fun (x_4 : Int32) => (q_st ((if (1 < ((z_fi M 900 a) / 8)) then ((z_fi M 900 a) / 8) else 1) : Int32) (fun (x_6 : Int32) => (((if (2 < (((x_4 + x_6) - 1) / x_6)) then (((x_4 + x_6) - 1) / x_6) else 2) : Int32), M))))))) := rfl
set_option maxRecDepth 100000 in
set_option maxHeartbeats 4000000 in
theorem cS_X7_mostPerTick {Q Post : Int32 → z_Mem → Prop} {a : Nat} {M : z_Mem} (H : P_X7_mostPerTick a M Q) (K : ∀ x M1, Q x M1 → cF_X7_mostPerTick a M = (x, M1) → Post x M1) : P_X7_mostPerTick a M Post := by
  have hF := cE_X7_mostPerTick a M
  unfold P_X7_mostPerTick at H ⊢
  obtain ⟨a2, e_a2, H⟩ := H
  refine z_nn_of e_a2 ?_
  replace hF := hF.trans (q_ste (q_gd e_a2))
  intro x_4 e_x_4
  replace H := H x_4 e_x_4
  replace hF := hF.trans (q_ste e_x_4)
  intro x_6 e_x_6
  replace H := H x_6 e_x_6
  replace hF := hF.trans (q_ste e_x_6)
  refine And.intro H.1 ?_
  replace H := H.2
  exact K _ _ H hF
set_option maxRecDepth 100000 in
noncomputable def cF_X7_canSend (a : Nat) (M : z_Mem) : (Int32 × z_Mem) := (q_st (Option.getD (z_fr M 897 a) 0) (fun (a3 : Nat) => (if ((z_fi M 257 a3) < (((z_fi M 899 a) + 1) * 16)) then (0, M) else (q_st2 (cF_X7_mostPerTick a M) (fun (x_7 : Int32) (M_7 : z_Mem) => (if (x_7 ≤ (z_fi M 909 a)) then (0, M_7) else (1, M_7)))))))
set_option maxRecDepth 100000 in
theorem cE_X7_canSend (a : Nat) (M : z_Mem) : cF_X7_canSend a M = (q_st (Option.getD (z_fr M 897 a) 0) (fun (a3 : Nat) => (if ((z_fi M 257 a3) < (((z_fi M 899 a) + 1) * 16)) then (0, M) else (q_st2 (cF_X7_mostPerTick a M) (fun (x_7 : Int32) (M_7 : z_Mem) => (if (x_7 ≤ (z_fi M 909 a)) then (0, M_7) else (1, M_7))))))) := rfl
set_option maxRecDepth 100000 in
set_option maxHeartbeats 4000000 in
theorem cS_X7_canSend {Q Post : Int32 → z_Mem → Prop} {a : Nat} {M : z_Mem} (H : P_X7_canSend a M Q) (K : ∀ x M1, Q x M1 → cF_X7_canSend a M = (x, M1) → Post x M1) : P_X7_canSend a M Post := by
  have hF := cE_X7_canSend a M
  unfold P_X7_canSend at H ⊢
  obtain ⟨a3, e_a3, H⟩ := H
  refine z_nn_of e_a3 ?_
  replace hF := hF.trans (q_ste (q_gd e_a3))
  refine And.intro (fun c1 => ?_) (fun c1 => ?_)
  · replace H := H.1 c1
    replace hF := hF.trans (if_pos c1)
    exact K _ _ H hF
  · replace H := H.2 c1
    replace hF := hF.trans (if_neg c1)
    refine cS_X7_mostPerTick H (fun x_7 M_7 H u => ?_)
    replace hF := hF.trans (q_ste2 u)
    refine And.intro (fun c2 => ?_) (fun c2 => ?_)
    · replace H := H.1 c2
      replace hF := hF.trans (if_pos c2)
      exact K _ _ H hF
    · replace H := H.2 c2
      replace hF := hF.trans (if_neg c2)
      exact K _ _ H hF
set_option maxRecDepth 100000 in
noncomputable def cF_X1_routeToSend_84 (a : Nat) (x1 : Int32) (x2 : Int32) (M : z_Mem) : (Option Nat × z_Mem) := (if (x1 = 0) then (if (x2 = 0) then (none, M) else ((z_fr M 131 a), M)) else ((z_fr M 130 a), M))
set_option maxRecDepth 100000 in
theorem cE_X1_routeToSend_84 (a : Nat) (x1 : Int32) (x2 : Int32) (M : z_Mem) : cF_X1_routeToSend_84 a x1 x2 M = (if (x1 = 0) then (if (x2 = 0) then (none, M) else ((z_fr M 131 a), M)) else ((z_fr M 130 a), M)) := rfl
set_option maxRecDepth 100000 in
set_option maxHeartbeats 4000000 in
theorem cS_X1_routeToSend_84 {Q Post : Option Nat → z_Mem → Prop} {a : Nat} {x1 : Int32} {x2 : Int32} {M : z_Mem} (H : P_X1_routeToSend_84 a Q x1 x2 M) (K : ∀ x M1, Q x M1 → cF_X1_routeToSend_84 a x1 x2 M = (x, M1) → Post x M1) : P_X1_routeToSend_84 a Post x1 x2 M := by
  have hF := cE_X1_routeToSend_84 a x1 x2 M
  unfold P_X1_routeToSend_84 at H ⊢
  refine And.intro (fun c1 => ?_) (fun c1 => ?_)
  · replace H := H.1 c1
    replace hF := hF.trans (if_pos c1)
    refine And.intro (fun c2 => ?_) (fun c2 => ?_)
    · replace H := H.1 c2
      replace hF := hF.trans (if_pos c2)
      exact K _ _ H hF
    · replace H := H.2 c2
      replace hF := hF.trans (if_neg c2)
      exact K _ _ H hF
  · replace H := H.2 c1
    replace hF := hF.trans (if_neg c1)
    exact K _ _ H hF
set_option maxRecDepth 100000 in
noncomputable def cF_X1_routeToSend_46 (a : Nat) (x1 : Int32) (t0 : Int32) (M : z_Mem) : (Option Nat × z_Mem) := (if (x1 = 0) then (cF_X1_routeToSend_84 a x1 t0 M) else (if (t0 = 0) then (cF_X1_routeToSend_84 a x1 t0 M) else (q_st (Option.getD (z_fr M 131 a) 0) (fun (a8 : Nat) => (q_st (Option.getD (z_fr M 130 a) 0) (fun (a11 : Nat) => (if ((z_fi M 899 a11) ≤ (z_fi M 899 a8)) then ((z_fr M 130 a), M) else ((z_fr M 131 a), M))))))))
set_option maxRecDepth 100000 in
theorem cE_X1_routeToSend_46 (a : Nat) (x1 : Int32) (t0 : Int32) (M : z_Mem) : cF_X1_routeToSend_46 a x1 t0 M = (if (x1 = 0) then (cF_X1_routeToSend_84 a x1 t0 M) else (if (t0 = 0) then (cF_X1_routeToSend_84 a x1 t0 M) else (q_st (Option.getD (z_fr M 131 a) 0) (fun (a8 : Nat) => (q_st (Option.getD (z_fr M 130 a) 0) (fun (a11 : Nat) => (if ((z_fi M 899 a11) ≤ (z_fi M 899 a8)) then ((z_fr M 130 a), M) else ((z_fr M 131 a), M)))))))) := rfl
set_option maxRecDepth 100000 in
set_option maxHeartbeats 4000000 in
theorem cS_X1_routeToSend_46 {Q Post : Option Nat → z_Mem → Prop} {a : Nat} {x1 : Int32} {t0 : Int32} {M : z_Mem} (H : P_X1_routeToSend_46 a Q x1 t0 M) (K : ∀ x M1, Q x M1 → cF_X1_routeToSend_46 a x1 t0 M = (x, M1) → Post x M1) : P_X1_routeToSend_46 a Post x1 t0 M := by
  have hF := cE_X1_routeToSend_46 a x1 t0 M
  unfold P_X1_routeToSend_46 at H ⊢
  refine And.intro (fun c1 => ?_) (fun c1 => ?_)
  · replace H := H.1 c1
    replace hF := hF.trans (if_pos c1)
    exact cS_X1_routeToSend_84 H (fun x M1 q u => K x M1 q (hF.trans u))
  · replace H := H.2 c1
    replace hF := hF.trans (if_neg c1)
    refine And.intro (fun c2 => ?_) (fun c2 => ?_)
    · replace H := H.1 c2
      replace hF := hF.trans (if_pos c2)
      exact cS_X1_routeToSend_84 H (fun x M1 q u => K x M1 q (hF.trans u))
    · replace H := H.2 c2
      replace hF := hF.trans (if_neg c2)
      obtain ⟨a8, e_a8, H⟩ := H
      refine z_nn_of e_a8 ?_
      replace hF := hF.trans (q_ste (q_gd e_a8))
      obtain ⟨a11, e_a11, H⟩ := H
      refine z_nn_of e_a11 ?_
      replace hF := hF.trans (q_ste (q_gd e_a11))
      refine And.intro (fun c3 => ?_) (fun c3 => ?_)
      · replace H := H.1 c3
        replace hF := hF.trans (if_pos c3)
        exact K _ _ H hF
      · replace H := H.2 c3
        replace hF := hF.trans (if_neg c3)
        exact K _ _ H hF
set_option maxRecDepth 100000 in
noncomputable def cF_X1_routeToSend_45 (a : Nat) (x1 : Int32) (M : z_Mem) : (Option Nat × z_Mem) := (cF_X1_routeToSend_46 a x1 0 M)
set_option maxRecDepth 100000 in
theorem cE_X1_routeToSend_45 (a : Nat) (x1 : Int32) (M : z_Mem) : cF_X1_routeToSend_45 a x1 M = (cF_X1_routeToSend_46 a x1 0 M) := rfl
set_option maxRecDepth 100000 in
set_option maxHeartbeats 4000000 in
theorem cS_X1_routeToSend_45 {Q Post : Option Nat → z_Mem → Prop} {a : Nat} {x1 : Int32} {M : z_Mem} (H : P_X1_routeToSend_45 a Q x1 M) (K : ∀ x M1, Q x M1 → cF_X1_routeToSend_45 a x1 M = (x, M1) → Post x M1) : P_X1_routeToSend_45 a Post x1 M := by
  have hF := cE_X1_routeToSend_45 a x1 M
  unfold P_X1_routeToSend_45 at H ⊢
  exact cS_X1_routeToSend_46 H (fun x M1 q u => K x M1 q (hF.trans u))
set_option maxRecDepth 100000 in
noncomputable def cF_X1_routeToSend_23 (a : Nat) (t0 : Int32) (M : z_Mem) : (Option Nat × z_Mem) := (if ((z_fi M 143 a) = 0) then (cF_X1_routeToSend_45 a t0 M) else (q_st (Option.getD (z_fr M 131 a) 0) (fun (a20 : Nat) => (q_st2 (cF_X7_canSend a20 M) (fun (x_19 : Int32) (M_19 : z_Mem) => (if (x_19 = 0) then (cF_X1_routeToSend_45 a t0 M_19) else (cF_X1_routeToSend_46 a t0 1 M_19)))))))
set_option maxRecDepth 100000 in
theorem cE_X1_routeToSend_23 (a : Nat) (t0 : Int32) (M : z_Mem) : cF_X1_routeToSend_23 a t0 M = (if ((z_fi M 143 a) = 0) then (cF_X1_routeToSend_45 a t0 M) else (q_st (Option.getD (z_fr M 131 a) 0) (fun (a20 : Nat) => (q_st2 (cF_X7_canSend a20 M) (fun (x_19 : Int32) (M_19 : z_Mem) => (if (x_19 = 0) then (cF_X1_routeToSend_45 a t0 M_19) else (cF_X1_routeToSend_46 a t0 1 M_19))))))) := rfl
set_option maxRecDepth 100000 in
set_option maxHeartbeats 4000000 in
theorem cS_X1_routeToSend_23 {Q Post : Option Nat → z_Mem → Prop} {a : Nat} {t0 : Int32} {M : z_Mem} (H : P_X1_routeToSend_23 a Q t0 M) (K : ∀ x M1, Q x M1 → cF_X1_routeToSend_23 a t0 M = (x, M1) → Post x M1) : P_X1_routeToSend_23 a Post t0 M := by
  have hF := cE_X1_routeToSend_23 a t0 M
  unfold P_X1_routeToSend_23 at H ⊢
  refine And.intro (fun c1 => ?_) (fun c1 => ?_)
  · replace H := H.1 c1
    replace hF := hF.trans (if_pos c1)
    exact cS_X1_routeToSend_45 H (fun x M1 q u => K x M1 q (hF.trans u))
  · replace H := H.2 c1
    replace hF := hF.trans (if_neg c1)
    obtain ⟨a20, e_a20, H⟩ := H
    refine z_nn_of e_a20 ?_
    replace hF := hF.trans (q_ste (q_gd e_a20))
    refine cS_X7_canSend H (fun x_19 M_19 H u => ?_)
    replace hF := hF.trans (q_ste2 u)
    refine And.intro (fun c2 => ?_) (fun c2 => ?_)
    · replace H := H.1 c2
      replace hF := hF.trans (if_pos c2)
      exact cS_X1_routeToSend_45 H (fun x M1 q u => K x M1 q (hF.trans u))
    · replace H := H.2 c2
      replace hF := hF.trans (if_neg c2)
      exact cS_X1_routeToSend_46 H (fun x M1 q u => K x M1 q (hF.trans u))
set_option maxRecDepth 100000 in
noncomputable def cF_X1_routeToSend_22 (a : Nat) (M : z_Mem) : (Option Nat × z_Mem) := (cF_X1_routeToSend_23 a 0 M)
set_option maxRecDepth 100000 in
theorem cE_X1_routeToSend_22 (a : Nat) (M : z_Mem) : cF_X1_routeToSend_22 a M = (cF_X1_routeToSend_23 a 0 M) := rfl
set_option maxRecDepth 100000 in
set_option maxHeartbeats 4000000 in
theorem cS_X1_routeToSend_22 {Q Post : Option Nat → z_Mem → Prop} {a : Nat} {M : z_Mem} (H : P_X1_routeToSend_22 a Q M) (K : ∀ x M1, Q x M1 → cF_X1_routeToSend_22 a M = (x, M1) → Post x M1) : P_X1_routeToSend_22 a Post M := by
  have hF := cE_X1_routeToSend_22 a M
  unfold P_X1_routeToSend_22 at H ⊢
  exact cS_X1_routeToSend_23 H (fun x M1 q u => K x M1 q (hF.trans u))
set_option maxRecDepth 100000 in
noncomputable def cF_X1_routeToSend (a : Nat) (M : z_Mem) : (Option Nat × z_Mem) := (if ((z_fi M 143 a) = 1) then (cF_X1_routeToSend_22 a M) else (q_st (Option.getD (z_fr M 130 a) 0) (fun (a26 : Nat) => (q_st2 (cF_X7_canSend a26 M) (fun (x_25 : Int32) (M_25 : z_Mem) => (if (x_25 = 0) then (cF_X1_routeToSend_22 a M_25) else (cF_X1_routeToSend_23 a 1 M_25)))))))
set_option maxRecDepth 100000 in
theorem cE_X1_routeToSend (a : Nat) (M : z_Mem) : cF_X1_routeToSend a M = (if ((z_fi M 143 a) = 1) then (cF_X1_routeToSend_22 a M) else (q_st (Option.getD (z_fr M 130 a) 0) (fun (a26 : Nat) => (q_st2 (cF_X7_canSend a26 M) (fun (x_25 : Int32) (M_25 : z_Mem) => (if (x_25 = 0) then (cF_X1_routeToSend_22 a M_25) else (cF_X1_routeToSend_23 a 1 M_25))))))) := rfl
set_option maxRecDepth 100000 in
set_option maxHeartbeats 4000000 in
theorem cS_X1_routeToSend {Q Post : Option Nat → z_Mem → Prop} {a : Nat} {M : z_Mem} (H : P_X1_routeToSend a M Q) (K : ∀ x M1, Q x M1 → cF_X1_routeToSend a M = (x, M1) → Post x M1) : P_X1_routeToSend a M Post := by
  have hF := cE_X1_routeToSend a M
  unfold P_X1_routeToSend at H ⊢
  refine And.intro (fun c1 => ?_) (fun c1 => ?_)
  · replace H := H.1 c1
    replace hF := hF.trans (if_pos c1)
    exact cS_X1_routeToSend_22 H (fun x M1 q u => K x M1 q (hF.trans u))
  · replace H := H.2 c1
    replace hF := hF.trans (if_neg c1)
    obtain ⟨a26, e_a26, H⟩ := H
    refine z_nn_of e_a26 ?_
    replace hF := hF.trans (q_ste (q_gd e_a26))
    refine cS_X7_canSend H (fun x_25 M_25 H u => ?_)
    replace hF := hF.trans (q_ste2 u)
    refine And.intro (fun c2 => ?_) (fun c2 => ?_)
    · replace H := H.1 c2
      replace hF := hF.trans (if_pos c2)
      exact cS_X1_routeToSend_22 H (fun x M1 q u => K x M1 q (hF.trans u))
    · replace H := H.2 c2
      replace hF := hF.trans (if_neg c2)
      exact cS_X1_routeToSend_23 H (fun x M1 q u => K x M1 q (hF.trans u))
set_option maxRecDepth 100000 in
noncomputable def cB_X9_lowestLost_2 (a : Nat) (x1 : Int32) (M : z_Mem) : (Int32 × z_Mem) ⊕ (Int32 × z_Mem) := (if (200 ≤ x1) then (.inr (x1, M)) else (q_st2 (cF_X9_isLost a x1 M) (fun (x_2 : Int32) (M_2 : z_Mem) => (if (x_2 = 0) then (q_st (x1 + 1) (fun (x_4 : Int32) => (.inl (x_4, M_2)))) else (.inr (x1, M_2))))))
set_option maxRecDepth 100000 in
noncomputable def cF_X9_lowestLost_2 (a : Nat) (x1 : Int32) (M : z_Mem) : (Int32 × z_Mem) := q_lp (X := (Int32 × z_Mem)) (Y := (Int32 × z_Mem)) ((0 : Int32), M) (fun t => cB_X9_lowestLost_2 a t.1 t.2) (x1, M)
set_option maxRecDepth 100000 in
theorem cUl_X9_lowestLost_2 {a : Nat} {x1 : Int32} {M : z_Mem} {y_x1 : Int32} {M1 : z_Mem} (h : cB_X9_lowestLost_2 a x1 M = .inl (y_x1, M1)) : cF_X9_lowestLost_2 a x1 M = cF_X9_lowestLost_2 a y_x1 M1 := q_lpl (step := fun t => cB_X9_lowestLost_2 a t.1 t.2) h
set_option maxRecDepth 100000 in
theorem cUr_X9_lowestLost_2 {a : Nat} {x1 : Int32} {M : z_Mem} {y : (Int32 × z_Mem)} (h : cB_X9_lowestLost_2 a x1 M = .inr y) : cF_X9_lowestLost_2 a x1 M = y := q_lpr (step := fun t => cB_X9_lowestLost_2 a t.1 t.2) h
set_option maxRecDepth 100000 in
theorem cE_X9_lowestLost_2 (a : Nat) (x1 : Int32) (M : z_Mem) : cB_X9_lowestLost_2 a x1 M = (if (200 ≤ x1) then (.inr (x1, M)) else (q_st2 (cF_X9_isLost a x1 M) (fun (x_2 : Int32) (M_2 : z_Mem) => (if (x_2 = 0) then (q_st (x1 + 1) (fun (x_4 : Int32) => (.inl (x_4, M_2)))) else (.inr (x1, M_2)))))) := rfl
set_option maxRecDepth 100000 in
set_option maxHeartbeats 4000000 in
theorem cS_X9_lowestLost_2 {Q Post : Int32 → z_Mem → Prop} {a : Nat} : ∀ (m : Nat) {x1 : Int32} {M : z_Mem} (H : P_X9_lowestLost_2 a Q m x1 M) (K : ∀ x M1, Q x M1 → cF_X9_lowestLost_2 a x1 M = (x, M1) → Post x M1), P_X9_lowestLost_2 a Post m x1 M := by
  intro m
  induction m with
  | zero => intros; rename_i H _; exact False.elim H
  | succ m ih =>
    intro x1 M H K
    have hF := cE_X9_lowestLost_2 a x1 M
    unfold P_X9_lowestLost_2 at H ⊢
    refine And.intro (fun c1 => ?_) (fun c1 => ?_)
    · replace H := H.1 c1
      replace hF := hF.trans (if_pos c1)
      exact K _ _ H (cUr_X9_lowestLost_2 hF)
    · replace H := H.2 c1
      replace hF := hF.trans (if_neg c1)
      refine cS_X9_isLost H (fun x_2 M_2 H u => ?_)
      replace hF := hF.trans (q_ste2 u)
      refine And.intro (fun c2 => ?_) (fun c2 => ?_)
      · replace H := H.1 c2
        replace hF := hF.trans (if_pos c2)
        intro x_4 e_x_4
        replace H := H x_4 e_x_4
        replace hF := hF.trans (q_ste e_x_4)
        replace hF := cUl_X9_lowestLost_2 hF
        exact ih H (fun x M1 q u => K x M1 q (hF.trans u))
      · replace H := H.2 c2
        replace hF := hF.trans (if_neg c2)
        exact K _ _ H (cUr_X9_lowestLost_2 hF)
