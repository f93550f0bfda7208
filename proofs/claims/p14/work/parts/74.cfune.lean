/-! ===== THE CLASS as functions on memories, 5 ===== -/
set_option maxRecDepth 100000 in
noncomputable def cF_X11_clearRow (p1 : Option Nat) (M : z_Mem) : z_Mem := (cF_X11_clearRow_2 p1 0 M)
set_option maxRecDepth 100000 in
theorem cE_X11_clearRow (p1 : Option Nat) (M : z_Mem) : cF_X11_clearRow p1 M = (cF_X11_clearRow_2 p1 0 M) := rfl
set_option maxRecDepth 100000 in
set_option maxHeartbeats 4000000 in
theorem cS_X11_clearRow {Q Post : z_Mem → Prop} {p1 : Option Nat} {M : z_Mem} (H : P_X11_clearRow p1 M Q) (K : ∀ M1, Q M1 → cF_X11_clearRow p1 M = M1 → Post M1) : P_X11_clearRow p1 M Post := by
  have hF := cE_X11_clearRow p1 M
  unfold P_X11_clearRow at H ⊢
  obtain ⟨m, H⟩ := H
  refine ⟨m, ?_⟩
  exact cS_X11_clearRow_2 m H (fun M1 q u => K M1 q (hF.trans u))
set_option maxRecDepth 100000 in
noncomputable def cF_X8_forget (a : Nat) (M : z_Mem) : z_Mem := (q_st (z_sfi M 1026 a 3) (fun (M_1 : z_Mem) => (q_st (z_sfi M_1 1028 a 0) (fun (M_2 : z_Mem) => (q_st (cF_X11_clearRow (z_fr M_2 1033 a) M_2) (fun (M_4 : z_Mem) => (q_st (z_sfi M_4 1034 a (-1)) (fun (M_5 : z_Mem) => (q_st (z_sfi M_5 1035 a 0) (fun (M_6 : z_Mem) => (q_st (z_sfi M_6 1036 a 0) (fun (M_7 : z_Mem) => (q_st (z_sfi M_7 1037 a (-1)) (fun (M_8 : z_Mem) => (q_st (z_sfi M_8 1038 a (-1)) (fun (M_9 : z_Mem) => M_9))))))))))))))))
set_option maxRecDepth 100000 in
theorem cE_X8_forget (a : Nat) (M : z_Mem) : cF_X8_forget a M = (q_st (z_sfi M 1026 a 3) (fun (M_1 : z_Mem) => (q_st (z_sfi M_1 1028 a 0) (fun (M_2 : z_Mem) => (q_st (cF_X11_clearRow (z_fr M_2 1033 a) M_2) (fun (M_4 : z_Mem) => (q_st (z_sfi M_4 1034 a (-1)) (fun (M_5 : z_Mem) => (q_st (z_sfi M_5 1035 a 0) (fun (M_6 : z_Mem) => (q_st (z_sfi M_6 1036 a 0) (fun (M_7 : z_Mem) => (q_st (z_sfi M_7 1037 a (-1)) (fun (M_8 : z_Mem) => (q_st (z_sfi M_8 1038 a (-1)) (fun (M_9 : z_Mem) => M_9)))))))))))))))) := rfl
set_option maxRecDepth 100000 in
set_option maxHeartbeats 4000000 in
theorem cS_X8_forget {Q Post : z_Mem → Prop} {a : Nat} {M : z_Mem} (H : P_X8_forget a M Q) (K : ∀ M1, Q M1 → cF_X8_forget a M = M1 → Post M1) : P_X8_forget a M Post := by
  have hF := cE_X8_forget a M
  unfold P_X8_forget at H ⊢
  intro M_1 e_M_1
  replace H := H M_1 e_M_1
  replace hF := hF.trans (q_ste e_M_1)
  intro M_2 e_M_2
  replace H := H M_2 e_M_2
  replace hF := hF.trans (q_ste e_M_2)
  refine cS_X11_clearRow H (fun M_4 H u => ?_)
  replace hF := hF.trans (q_ste u.symm)
  intro M_5 e_M_5
  replace H := H M_5 e_M_5
  replace hF := hF.trans (q_ste e_M_5)
  intro M_6 e_M_6
  replace H := H M_6 e_M_6
  replace hF := hF.trans (q_ste e_M_6)
  intro M_7 e_M_7
  replace H := H M_7 e_M_7
  replace hF := hF.trans (q_ste e_M_7)
  intro M_8 e_M_8
  replace H := H M_8 e_M_8
  replace hF := hF.trans (q_ste e_M_8)
  intro M_9 e_M_9
  replace H := H M_9 e_M_9
  replace hF := hF.trans (q_ste e_M_9)
  exact K _ H hF
set_option maxRecDepth 100000 in
noncomputable def cF_X8_useTicket (a : Nat) (p1 : Int32) (M : z_Mem) : (Int32 × z_Mem) := (if (p1 < 0) then (0, M) else (if (10 ≤ p1) then (0, M) else (q_st (Option.getD (z_fr M 1029 a) 0) (fun (a4 : Nat) => (if ((z_ai M a4 (p1 : Int32).toNatClampNeg) = 0) then (q_st (Option.getD (z_fr M 1029 a) 0) (fun (a8 : Nat) => (q_st (z_sai M a8 (p1 : Int32).toNatClampNeg 1) (fun (M_10 : z_Mem) => (1, M_10))))) else (0, M))))))
set_option maxRecDepth 100000 in
theorem cE_X8_useTicket (a : Nat) (p1 : Int32) (M : z_Mem) : cF_X8_useTicket a p1 M = (if (p1 < 0) then (0, M) else (if (10 ≤ p1) then (0, M) else (q_st (Option.getD (z_fr M 1029 a) 0) (fun (a4 : Nat) => (if ((z_ai M a4 (p1 : Int32).toNatClampNeg) = 0) then (q_st (Option.getD (z_fr M 1029 a) 0) (fun (a8 : Nat) => (q_st (z_sai M a8 (p1 : Int32).toNatClampNeg 1) (fun (M_10 : z_Mem) => (1, M_10))))) else (0, M)))))) := rfl
set_option maxRecDepth 100000 in
set_option maxHeartbeats 4000000 in
theorem cS_X8_useTicket {Q Post : Int32 → z_Mem → Prop} {a : Nat} {p1 : Int32} {M : z_Mem} (H : P_X8_useTicket a p1 M Q) (K : ∀ x M1, Q x M1 → cF_X8_useTicket a p1 M = (x, M1) → Post x M1) : P_X8_useTicket a p1 M Post := by
  have hF := cE_X8_useTicket a p1 M
  unfold P_X8_useTicket at H ⊢
  refine And.intro (fun c1 => ?_) (fun c1 => ?_)
  · replace H := H.1 c1
    replace hF := hF.trans (if_pos c1)
    exact K _ _ H hF
  · replace H := H.2 c1
    replace hF := hF.trans (if_neg c1)
    refine And.intro (fun c2 => ?_) (fun c2 => ?_)
    · replace H := H.1 c2
      replace hF := hF.trans (if_pos c2)
      exact K _ _ H hF
    · replace H := H.2 c2
      replace hF := hF.trans (if_neg c2)
      obtain ⟨a4, e_a4, H⟩ := H
      refine z_nn_of e_a4 ?_
      replace hF := hF.trans (q_ste (q_gd e_a4))
      refine And.intro H.1 ?_
      replace H := H.2
      refine And.intro (fun c3 => ?_) (fun c3 => ?_)
      · replace H := H.1 c3
        replace hF := hF.trans (if_pos c3)
        obtain ⟨a8, e_a8, H⟩ := H
        refine z_nn_of e_a8 ?_
        replace hF := hF.trans (q_ste (q_gd e_a8))
        refine And.intro H.1 ?_
        replace H := H.2
        intro M_10 e_M_10
        replace H := H M_10 e_M_10
        replace hF := hF.trans (q_ste e_M_10)
        exact K _ _ H hF
      · replace H := H.2 c3
        replace hF := hF.trans (if_neg c3)
        exact K _ _ H hF
set_option maxRecDepth 100000 in
noncomputable def cF_X8_hearHello_59 (a : Nat) (x1 : Option Nat) (M : z_Mem) : z_Mem := (q_st (z_new M 5 8) (fun (M_2 : z_Mem) => (q_st (cF_X4_init (z_sz M) 2 M_2) (fun (M_3 : z_Mem) => (q_st (z_sfi M_3 519 (z_sz M) (z_fi M_3 1028 a)) (fun (M_5 : z_Mem) => (q_st (Option.getD x1 0) (fun (a7 : Nat) => (q_st (Option.getD (z_fr M_5 1024 a) 0) (fun (a10 : Nat) => (q_st (cF_X5_putToClient a10 (z_fi M_5 513 a7) (some (z_sz M)) M_5) (fun (M_9 : z_Mem) => M_9))))))))))))
set_option maxRecDepth 100000 in
theorem cE_X8_hearHello_59 (a : Nat) (x1 : Option Nat) (M : z_Mem) : cF_X8_hearHello_59 a x1 M = (q_st (z_new M 5 8) (fun (M_2 : z_Mem) => (q_st (cF_X4_init (z_sz M) 2 M_2) (fun (M_3 : z_Mem) => (q_st (z_sfi M_3 519 (z_sz M) (z_fi M_3 1028 a)) (fun (M_5 : z_Mem) => (q_st (Option.getD x1 0) (fun (a7 : Nat) => (q_st (Option.getD (z_fr M_5 1024 a) 0) (fun (a10 : Nat) => (q_st (cF_X5_putToClient a10 (z_fi M_5 513 a7) (some (z_sz M)) M_5) (fun (M_9 : z_Mem) => M_9)))))))))))) := rfl
set_option maxRecDepth 100000 in
set_option maxHeartbeats 4000000 in
theorem cS_X8_hearHello_59 {Q Post : z_Mem → Prop} {a : Nat} {x1 : Option Nat} {M : z_Mem} (H : P_X8_hearHello_59 a Q x1 M) (K : ∀ M1, Q M1 → cF_X8_hearHello_59 a x1 M = M1 → Post M1) : P_X8_hearHello_59 a Post x1 M := by
  have hF := cE_X8_hearHello_59 a x1 M
  unfold P_X8_hearHello_59 at H ⊢
  refine And.intro H.1 ?_
  replace H := H.2
  intro M_2 e_M_2
  replace H := H M_2 e_M_2
  replace hF := hF.trans (q_ste e_M_2)
  refine cS_X4_init H (fun M_3 H u => ?_)
  replace hF := hF.trans (q_ste u.symm)
  intro M_5 e_M_5
  replace H := H M_5 e_M_5
  replace hF := hF.trans (q_ste e_M_5)
  obtain ⟨a7, e_a7, H⟩ := H
  refine z_nn_of e_a7 ?_
  replace hF := hF.trans (q_ste (q_gd e_a7))
  obtain ⟨a10, e_a10, H⟩ := H
  refine z_nn_of e_a10 ?_
  replace hF := hF.trans (q_ste (q_gd e_a10))
  refine cS_X5_putToClient H (fun M_9 H u => ?_)
  replace hF := hF.trans (q_ste u.symm)
  exact K _ H hF
set_option maxRecDepth 100000 in
noncomputable def cF_X8_hearHello_42 (a : Nat) (x1 : Option Nat) (M : z_Mem) : z_Mem := (q_st (z_sfi M 1026 a 1) (fun (M_11 : z_Mem) => (q_st (Option.getD x1 0) (fun (a12 : Nat) => (q_st2 (cF_X8_useTicket a (z_fi M_11 517 a12) M_11) (fun (x_14 : Int32) (M_14 : z_Mem) => (q_st (z_sfi M_14 1028 a x_14) (fun (M_15 : z_Mem) => (cF_X8_hearHello_59 a x1 M_15)))))))))
set_option maxRecDepth 100000 in
theorem cE_X8_hearHello_42 (a : Nat) (x1 : Option Nat) (M : z_Mem) : cF_X8_hearHello_42 a x1 M = (q_st (z_sfi M 1026 a 1) (fun (M_11 : z_Mem) => (q_st (Option.getD x1 0) (fun (a12 : Nat) => (q_st2 (cF_X8_useTicket a (z_fi M_11 517 a12) M_11) (fun (x_14 : Int32) (M_14 : z_Mem) => (q_st (z_sfi M_14 1028 a x_14) (fun (M_15 : z_Mem) => (cF_X8_hearHello_59 a x1 M_15))))))))) := rfl
set_option maxRecDepth 100000 in
set_option maxHeartbeats 4000000 in
theorem cS_X8_hearHello_42 {Q Post : z_Mem → Prop} {a : Nat} {x1 : Option Nat} {M : z_Mem} (H : P_X8_hearHello_42 a Q x1 M) (K : ∀ M1, Q M1 → cF_X8_hearHello_42 a x1 M = M1 → Post M1) : P_X8_hearHello_42 a Post x1 M := by
  have hF := cE_X8_hearHello_42 a x1 M
  unfold P_X8_hearHello_42 at H ⊢
  intro M_11 e_M_11
  replace H := H M_11 e_M_11
  replace hF := hF.trans (q_ste e_M_11)
  obtain ⟨a12, e_a12, H⟩ := H
  refine z_nn_of e_a12 ?_
  replace hF := hF.trans (q_ste (q_gd e_a12))
  refine cS_X8_useTicket H (fun x_14 M_14 H u => ?_)
  replace hF := hF.trans (q_ste2 u)
  intro M_15 e_M_15
  replace H := H M_15 e_M_15
  replace hF := hF.trans (q_ste e_M_15)
  exact cS_X8_hearHello_59 H (fun M1 q u => K M1 q (hF.trans u))
set_option maxRecDepth 100000 in
noncomputable def cF_X8_hearHello (a : Nat) (p1 : Option Nat) (M : z_Mem) : z_Mem := (if ((z_fi M 1026 a) = 1) then (cF_X8_hearHello_59 a p1 M) else (if ((z_fi M 1027 a) = 0) then (cF_X8_hearHello_42 a p1 M) else (q_st (Option.getD p1 0) (fun (a20 : Nat) => (if ((z_fi M 518 a20) = 0) then (q_st (z_new M 5 8) (fun (M_26 : z_Mem) => (q_st (cF_X4_init (z_sz M) 1 M_26) (fun (M_27 : z_Mem) => (q_st (Option.getD (z_fr M 1024 a) 0) (fun (a29 : Nat) => (q_st (cF_X5_putToClient a29 (z_fi M 513 a20) (some (z_sz M)) M_27) (fun (M_28 : z_Mem) => M_28)))))))) else (cF_X8_hearHello_42 a p1 M))))))
set_option maxRecDepth 100000 in
theorem cE_X8_hearHello (a : Nat) (p1 : Option Nat) (M : z_Mem) : cF_X8_hearHello a p1 M = (if ((z_fi M 1026 a) = 1) then (cF_X8_hearHello_59 a p1 M) else (if ((z_fi M 1027 a) = 0) then (cF_X8_hearHello_42 a p1 M) else (q_st (Option.getD p1 0) (fun (a20 : Nat) => (if ((z_fi M 518 a20) = 0) then (q_st (z_new M 5 8) (fun (M_26 : z_Mem) => (q_st (cF_X4_init (z_sz M) 1 M_26) (fun (M_27 : z_Mem) => (q_st (Option.getD (z_fr M 1024 a) 0) (fun (a29 : Nat) => (q_st (cF_X5_putToClient a29 (z_fi M 513 a20) (some (z_sz M)) M_27) (fun (M_28 : z_Mem) => M_28)))))))) else (cF_X8_hearHello_42 a p1 M)))))) := rfl
set_option maxRecDepth 100000 in
set_option maxHeartbeats 4000000 in
theorem cS_X8_hearHello {Q Post : z_Mem → Prop} {a : Nat} {p1 : Option Nat} {M : z_Mem} (H : P_X8_hearHello a p1 M Q) (K : ∀ M1, Q M1 → cF_X8_hearHello a p1 M = M1 → Post M1) : P_X8_hearHello a p1 M Post := by
  have hF := cE_X8_hearHello a p1 M
  unfold P_X8_hearHello at H ⊢
  refine And.intro (fun c1 => ?_) (fun c1 => ?_)
  · replace H := H.1 c1
    replace hF := hF.trans (if_pos c1)
    exact cS_X8_hearHello_59 H (fun M1 q u => K M1 q (hF.trans u))
  · replace H := H.2 c1
    replace hF := hF.trans (if_neg c1)
    refine And.intro (fun c2 => ?_) (fun c2 => ?_)
    · replace H := H.1 c2
      replace hF := hF.trans (if_pos c2)
      exact cS_X8_hearHello_42 H (fun M1 q u => K M1 q (hF.trans u))
    · replace H := H.2 c2
      replace hF := hF.trans (if_neg c2)
      obtain ⟨a20, e_a20, H⟩ := H
      refine z_nn_of e_a20 ?_
      replace hF := hF.trans (q_ste (q_gd e_a20))
      refine And.intro (fun c3 => ?_) (fun c3 => ?_)
      · replace H := H.1 c3
        replace hF := hF.trans (if_pos c3)
        refine And.intro H.1 ?_
        replace H := H.2
        intro M_26 e_M_26
        replace H := H M_26 e_M_26
        replace hF := hF.trans (q_ste e_M_26)
        refine cS_X4_init H (fun M_27 H u => ?_)
        replace hF := hF.trans (q_ste u.symm)
        obtain ⟨a29, e_a29, H⟩ := H
        refine z_nn_of e_a29 ?_
        replace hF := hF.trans (q_ste (q_gd e_a29))
        refine cS_X5_putToClient H (fun M_28 H u => ?_)
        replace hF := hF.trans (q_ste u.symm)
        exact K _ H hF
      · replace H := H.2 c3
        replace hF := hF.trans (if_neg c3)
        exact cS_X8_hearHello_42 H (fun M1 q u => K M1 q (hF.trans u))
set_option maxRecDepth 100000 in
noncomputable def cF_X8_takesKey_35 (a : Nat) (x1 : Int32) (M : z_Mem) : (Int32 × z_Mem) := (if (x1 = (z_fi M 1030 a)) then (1, M) else (if (x1 = (z_fi M 1031 a)) then (q_st (Option.getD (z_fr M 1024 a) 0) (fun (a6 : Nat) => (if ((z_fi M 1032 a) ≤ (z_fi M 645 a6)) then (0, M) else (1, M)))) else (0, M)))
set_option maxRecDepth 100000 in
theorem cE_X8_takesKey_35 (a : Nat) (x1 : Int32) (M : z_Mem) : cF_X8_takesKey_35 a x1 M = (if (x1 = (z_fi M 1030 a)) then (1, M) else (if (x1 = (z_fi M 1031 a)) then (q_st (Option.getD (z_fr M 1024 a) 0) (fun (a6 : Nat) => (if ((z_fi M 1032 a) ≤ (z_fi M 645 a6)) then (0, M) else (1, M)))) else (0, M))) := rfl
set_option maxRecDepth 100000 in
set_option maxHeartbeats 4000000 in
theorem cS_X8_takesKey_35 {Q Post : Int32 → z_Mem → Prop} {a : Nat} {x1 : Int32} {M : z_Mem} (H : P_X8_takesKey_35 a Q x1 M) (K : ∀ x M1, Q x M1 → cF_X8_takesKey_35 a x1 M = (x, M1) → Post x M1) : P_X8_takesKey_35 a Post x1 M := by
  have hF := cE_X8_takesKey_35 a x1 M
  unfold P_X8_takesKey_35 at H ⊢
  refine And.intro (fun c1 => ?_) (fun c1 => ?_)
  · replace H := H.1 c1
    replace hF := hF.trans (if_pos c1)
    exact K _ _ H hF
  · replace H := H.2 c1
    replace hF := hF.trans (if_neg c1)
    refine And.intro (fun c2 => ?_) (fun c2 => ?_)
    · replace H := H.1 c2
      replace hF := hF.trans (if_pos c2)
      obtain ⟨a6, e_a6, H⟩ := H
      refine z_nn_of e_a6 ?_
      replace hF := hF.trans (q_ste (q_gd e_a6))
      refine And.intro (fun c3 => ?_) (fun c3 => ?_)
      · replace H := H.1 c3
        replace hF := hF.trans (if_pos c3)
        exact K _ _ H hF
      · replace H := H.2 c3
        replace hF := hF.trans (if_neg c3)
        exact K _ _ H hF
    · replace H := H.2 c2
      replace hF := hF.trans (if_neg c2)
      exact K _ _ H hF
set_option maxRecDepth 100000 in
noncomputable def cF_X8_takesKey (a : Nat) (p1 : Int32) (M : z_Mem) : (Int32 × z_Mem) := (if (p1 ≤ (z_fi M 1030 a)) then (cF_X8_takesKey_35 a p1 M) else (q_st (z_sfi M 1031 a (z_fi M 1030 a)) (fun (M_13 : z_Mem) => (q_st (Option.getD (z_fr M_13 1024 a) 0) (fun (a15 : Nat) => (q_st (z_sfi M_13 1032 a ((z_fi M_13 645 a15) + 8)) (fun (M_17 : z_Mem) => (q_st (z_sfi M_17 1030 a p1) (fun (M_18 : z_Mem) => (cF_X8_takesKey_35 a p1 M_18))))))))))
set_option maxRecDepth 100000 in
theorem cE_X8_takesKey (a : Nat) (p1 : Int32) (M : z_Mem) : cF_X8_takesKey a p1 M = (if (p1 ≤ (z_fi M 1030 a)) then (cF_X8_takesKey_35 a p1 M) else (q_st (z_sfi M 1031 a (z_fi M 1030 a)) (fun (M_13 : z_Mem) => (q_st (Option.getD (z_fr M_13 1024 a) 0) (fun (a15 : Nat) => (q_st (z_sfi M_13 1032 a ((z_fi M_13 645 a15) + 8)) (fun (M_17 : z_Mem) => (q_st (z_sfi M_17 1030 a p1) (fun (M_18 : z_Mem) => (cF_X8_takesKey_35 a p1 M_18)))))))))) := rfl
set_option maxRecDepth 100000 in
set_option maxHeartbeats 4000000 in
theorem cS_X8_takesKey {Q Post : Int32 → z_Mem → Prop} {a : Nat} {p1 : Int32} {M : z_Mem} (H : P_X8_takesKey a p1 M Q) (K : ∀ x M1, Q x M1 → cF_X8_takesKey a p1 M = (x, M1) → Post x M1) : P_X8_takesKey a p1 M Post := by
  have hF := cE_X8_takesKey a p1 M
  unfold P_X8_takesKey at H ⊢
  refine And.intro (fun c1 => ?_) (fun c1 => ?_)
  · replace H := H.1 c1
    replace hF := hF.trans (if_pos c1)
    exact cS_X8_takesKey_35 H (fun x M1 q u => K x M1 q (hF.trans u))
  · replace H := H.2 c1
    replace hF := hF.trans (if_neg c1)
    intro M_13 e_M_13
    replace H := H M_13 e_M_13
    replace hF := hF.trans (q_ste e_M_13)
    obtain ⟨a15, e_a15, H⟩ := H
    refine z_nn_of e_a15 ?_
    replace hF := hF.trans (q_ste (q_gd e_a15))
    intro M_17 e_M_17
    replace H := H M_17 e_M_17
    replace hF := hF.trans (q_ste e_M_17)
    intro M_18 e_M_18
    replace H := H M_18 e_M_18
    replace hF := hF.trans (q_ste e_M_18)
    exact cS_X8_takesKey_35 H (fun x M1 q u => K x M1 q (hF.trans u))
set_option maxRecDepth 100000 in
noncomputable def cB_X11_markRow_6 (x0 : Option Nat) (x1 : Int32) (x2 : Int32) (x3 : Int32) (M : z_Mem) : (Option Nat × Int32 × Int32 × Int32 × z_Mem) ⊕ z_Mem := (if ((x1 + x2) ≤ x3) then (.inr M) else (q_st (Option.getD x0 0) (fun (a2 : Nat) => (if ((nI (z_ln M a2)) ≤ x3) then (.inr M) else (q_st (z_sai M a2 (x3 : Int32).toNatClampNeg 1) (fun (M_5 : z_Mem) => (q_st (x3 + 1) (fun (x_6 : Int32) => (.inl (x0, x1, x2, x_6, M_5))))))))))
set_option maxRecDepth 100000 in
noncomputable def cF_X11_markRow_6 (x0 : Option Nat) (x1 : Int32) (x2 : Int32) (x3 : Int32) (M : z_Mem) : z_Mem := q_lp (X := (Option Nat × Int32 × Int32 × Int32 × z_Mem)) (Y := z_Mem) M (fun t => cB_X11_markRow_6 t.1 t.2.1 t.2.2.1 t.2.2.2.1 t.2.2.2.2) (x0, x1, x2, x3, M)
set_option maxRecDepth 100000 in
theorem cUl_X11_markRow_6 {x0 : Option Nat} {x1 : Int32} {x2 : Int32} {x3 : Int32} {M : z_Mem} {y_x0 : Option Nat} {y_x1 : Int32} {y_x2 : Int32} {y_x3 : Int32} {M1 : z_Mem} (h : cB_X11_markRow_6 x0 x1 x2 x3 M = .inl (y_x0, y_x1, y_x2, y_x3, M1)) : cF_X11_markRow_6 x0 x1 x2 x3 M = cF_X11_markRow_6 y_x0 y_x1 y_x2 y_x3 M1 := q_lpl (step := fun t => cB_X11_markRow_6 t.1 t.2.1 t.2.2.1 t.2.2.2.1 t.2.2.2.2) h
set_option maxRecDepth 100000 in
theorem cUr_X11_markRow_6 {x0 : Option Nat} {x1 : Int32} {x2 : Int32} {x3 : Int32} {M : z_Mem} {y : z_Mem} (h : cB_X11_markRow_6 x0 x1 x2 x3 M = .inr y) : cF_X11_markRow_6 x0 x1 x2 x3 M = y := q_lpr (step := fun t => cB_X11_markRow_6 t.1 t.2.1 t.2.2.1 t.2.2.2.1 t.2.2.2.2) h
set_option maxRecDepth 100000 in
theorem cE_X11_markRow_6 (x0 : Option Nat) (x1 : Int32) (x2 : Int32) (x3 : Int32) (M : z_Mem) : cB_X11_markRow_6 x0 x1 x2 x3 M = (if ((x1 + x2) ≤ x3) then (.inr M) else (q_st (Option.getD x0 0) (fun (a2 : Nat) => (if ((nI (z_ln M a2)) ≤ x3) then (.inr M) else (q_st (z_sai M a2 (x3 : Int32).toNatClampNeg 1) (fun (M_5 : z_Mem) => (q_st (x3 + 1) (fun (x_6 : Int32) => (.inl (x0, x1, x2, x_6, M_5)))))))))) := rfl
set_option maxRecDepth 100000 in
set_option maxHeartbeats 4000000 in
theorem cS_X11_markRow_6 {Q Post : z_Mem → Prop} : ∀ (m : Nat) {x0 : Option Nat} {x1 : Int32} {x2 : Int32} {x3 : Int32} {M : z_Mem} (H : P_X11_markRow_6 Q m x0 x1 x2 x3 M) (K : ∀ M1, Q M1 → cF_X11_markRow_6 x0 x1 x2 x3 M = M1 → Post M1), P_X11_markRow_6 Post m x0 x1 x2 x3 M := by
  intro m
  induction m with
  | zero => intros; rename_i H _; exact False.elim H
  | succ m ih =>
    intro x0 x1 x2 x3 M H K
    have hF := cE_X11_markRow_6 x0 x1 x2 x3 M
    unfold P_X11_markRow_6 at H ⊢
    refine And.intro (fun c1 => ?_) (fun c1 => ?_)
    · replace H := H.1 c1
      replace hF := hF.trans (if_pos c1)
      exact K _ H (cUr_X11_markRow_6 hF)
    · replace H := H.2 c1
      replace hF := hF.trans (if_neg c1)
      obtain ⟨a2, e_a2, H⟩ := H
      refine z_nn_of e_a2 ?_
      replace hF := hF.trans (q_ste (q_gd e_a2))
      refine And.intro (fun c2 => ?_) (fun c2 => ?_)
      · replace H := H.1 c2
        replace hF := hF.trans (if_pos c2)
        exact K _ H (cUr_X11_markRow_6 hF)
      · replace H := H.2 c2
        replace hF := hF.trans (if_neg c2)
        refine And.intro H.1 ?_
        replace H := H.2
        intro M_5 e_M_5
        replace H := H M_5 e_M_5
        replace hF := hF.trans (q_ste e_M_5)
        intro x_6 e_x_6
        replace H := H x_6 e_x_6
        replace hF := hF.trans (q_ste e_x_6)
        replace hF := cUl_X11_markRow_6 hF
        exact ih H (fun M1 q u => K M1 q (hF.trans u))
set_option maxRecDepth 100000 in
noncomputable def cF_X11_markRow (p1 : Option Nat) (p2 : Int32) (p3 : Int32) (M : z_Mem) : z_Mem := (q_st ((if (0 < p2) then p2 else 0) : Int32) (fun (x_7 : Int32) => (cF_X11_markRow_6 p1 p2 p3 x_7 M)))
set_option maxRecDepth 100000 in
theorem cE_X11_markRow (p1 : Option Nat) (p2 : Int32) (p3 : Int32) (M : z_Mem) : cF_X11_markRow p1 p2 p3 M = (q_st ((if (0 < p2) then p2 else 0) : Int32) (fun (x_7 : Int32) => (cF_X11_markRow_6 p1 p2 p3 x_7 M))) := rfl
set_option maxRecDepth 100000 in
set_option maxHeartbeats 4000000 in
theorem cS_X11_markRow {Q Post : z_Mem → Prop} {p1 : Option Nat} {p2 : Int32} {p3 : Int32} {M : z_Mem} (H : P_X11_markRow p1 p2 p3 M Q) (K : ∀ M1, Q M1 → cF_X11_markRow p1 p2 p3 M = M1 → Post M1) : P_X11_markRow p1 p2 p3 M Post := by
  have hF := cE_X11_markRow p1 p2 p3 M
  unfold P_X11_markRow at H ⊢
  intro x_7 e_x_7
  replace H := H x_7 e_x_7
  replace hF := hF.trans (q_ste e_x_7)
  obtain ⟨m, H⟩ := H
  refine ⟨m, ?_⟩
  exact cS_X11_markRow_6 m H (fun M1 q u => K M1 q (hF.trans u))
set_option maxRecDepth 100000 in
noncomputable def cB_X11_lengthOfPrefix_6 (x0 : Option Nat) (x2 : Int32) (M : z_Mem) : (Option Nat × Int32 × z_Mem) ⊕ (Int32 × z_Mem) := (q_st (Option.getD x0 0) (fun (a1 : Nat) => (if ((nI (z_ln M a1)) ≤ x2) then (.inr (x2, M)) else (if ((z_ai M a1 (x2 : Int32).toNatClampNeg) = 0) then (.inr (x2, M)) else (q_st (x2 + 1) (fun (x_5 : Int32) => (.inl (x0, x_5, M))))))))
set_option maxRecDepth 100000 in
noncomputable def cF_X11_lengthOfPrefix_6 (x0 : Option Nat) (x2 : Int32) (M : z_Mem) : (Int32 × z_Mem) := q_lp (X := (Option Nat × Int32 × z_Mem)) (Y := (Int32 × z_Mem)) ((0 : Int32), M) (fun t => cB_X11_lengthOfPrefix_6 t.1 t.2.1 t.2.2) (x0, x2, M)
set_option maxRecDepth 100000 in
theorem cUl_X11_lengthOfPrefix_6 {x0 : Option Nat} {x2 : Int32} {M : z_Mem} {y_x0 : Option Nat} {y_x2 : Int32} {M1 : z_Mem} (h : cB_X11_lengthOfPrefix_6 x0 x2 M = .inl (y_x0, y_x2, M1)) : cF_X11_lengthOfPrefix_6 x0 x2 M = cF_X11_lengthOfPrefix_6 y_x0 y_x2 M1 := q_lpl (step := fun t => cB_X11_lengthOfPrefix_6 t.1 t.2.1 t.2.2) h
set_option maxRecDepth 100000 in
theorem cUr_X11_lengthOfPrefix_6 {x0 : Option Nat} {x2 : Int32} {M : z_Mem} {y : (Int32 × z_Mem)} (h : cB_X11_lengthOfPrefix_6 x0 x2 M = .inr y) : cF_X11_lengthOfPrefix_6 x0 x2 M = y := q_lpr (step := fun t => cB_X11_lengthOfPrefix_6 t.1 t.2.1 t.2.2) h
set_option maxRecDepth 100000 in
theorem cE_X11_lengthOfPrefix_6 (x0 : Option Nat) (x2 : Int32) (M : z_Mem) : cB_X11_lengthOfPrefix_6 x0 x2 M = (q_st (Option.getD x0 0) (fun (a1 : Nat) => (if ((nI (z_ln M a1)) ≤ x2) then (.inr (x2, M)) else (if ((z_ai M a1 (x2 : Int32).toNatClampNeg) = 0) then (.inr (x2, M)) else (q_st (x2 + 1) (fun (x_5 : Int32) => (.inl (x0, x_5, M)))))))) := rfl
set_option maxRecDepth 100000 in
set_option maxHeartbeats 4000000 in
theorem cS_X11_lengthOfPrefix_6 {Q Post : Int32 → z_Mem → Prop} : ∀ (m : Nat) {x0 : Option Nat} {x2 : Int32} {M : z_Mem} (H : P_X11_lengthOfPrefix_6 Q m x0 x2 M) (K : ∀ x M1, Q x M1 → cF_X11_lengthOfPrefix_6 x0 x2 M = (x, M1) → Post x M1), P_X11_lengthOfPrefix_6 Post m x0 x2 M := by
  intro m
  induction m with
  | zero => intros; rename_i H _; exact False.elim H
  | succ m ih =>
    intro x0 x2 M H K
    have hF := cE_X11_lengthOfPrefix_6 x0 x2 M
    unfold P_X11_lengthOfPrefix_6 at H ⊢
    obtain ⟨a1, e_a1, H⟩ := H
    refine z_nn_of e_a1 ?_
    replace hF := hF.trans (q_ste (q_gd e_a1))
    refine And.intro (fun c1 => ?_) (fun c1 => ?_)
    · replace H := H.1 c1
      replace hF := hF.trans (if_pos c1)
      exact K _ _ H (cUr_X11_lengthOfPrefix_6 hF)
    · replace H := H.2 c1
      replace hF := hF.trans (if_neg c1)
      refine And.intro H.1 ?_
      replace H := H.2
      refine And.intro (fun c2 => ?_) (fun c2 => ?_)
      · replace H := H.1 c2
        replace hF := hF.trans (if_pos c2)
        exact K _ _ H (cUr_X11_lengthOfPrefix_6 hF)
      · replace H := H.2 c2
        replace hF := hF.trans (if_neg c2)
        intro x_5 e_x_5
        replace H := H x_5 e_x_5
        replace hF := hF.trans (q_ste e_x_5)
        replace hF := cUl_X11_lengthOfPrefix_6 hF
        exact ih H (fun x M1 q u => K x M1 q (hF.trans u))
set_option maxRecDepth 100000 in
noncomputable def cF_X11_lengthOfPrefix (p1 : Option Nat) (p2 : Int32) (M : z_Mem) : (Int32 × z_Mem) := (q_st ((if (0 < p2) then p2 else 0) : Int32) (fun (x_6 : Int32) => (cF_X11_lengthOfPrefix_6 p1 x_6 M)))
set_option maxRecDepth 100000 in
theorem cE_X11_lengthOfPrefix (p1 : Option Nat) (p2 : Int32) (M : z_Mem) : cF_X11_lengthOfPrefix p1 p2 M = (q_st ((if (0 < p2) then p2 else 0) : Int32) (fun (x_6 : Int32) => (cF_X11_lengthOfPrefix_6 p1 x_6 M))) := rfl
set_option maxRecDepth 100000 in
set_option maxHeartbeats 4000000 in
theorem cS_X11_lengthOfPrefix {Q Post : Int32 → z_Mem → Prop} {p1 : Option Nat} {p2 : Int32} {M : z_Mem} (H : P_X11_lengthOfPrefix p1 p2 M Q) (K : ∀ x M1, Q x M1 → cF_X11_lengthOfPrefix p1 p2 M = (x, M1) → Post x M1) : P_X11_lengthOfPrefix p1 p2 M Post := by
  have hF := cE_X11_lengthOfPrefix p1 p2 M
  unfold P_X11_lengthOfPrefix at H ⊢
  intro x_6 e_x_6
  replace H := H x_6 e_x_6
  replace hF := hF.trans (q_ste e_x_6)
  obtain ⟨m, H⟩ := H
  refine ⟨m, ?_⟩
  exact cS_X11_lengthOfPrefix_6 m H (fun x M1 q u => K x M1 q (hF.trans u))
set_option maxRecDepth 100000 in
noncomputable def cF_X9_arrive (a : Nat) (p1 : Int32) (p2 : Int32) (M : z_Mem) : z_Mem := (q_st (cF_X11_markRow (z_fr M 1161 a) p1 p2 M) (fun (M_2 : z_Mem) => (q_st2 (cF_X11_lengthOfPrefix (z_fr M_2 1161 a) (z_fi M_2 1157 a) M_2) (fun (x_5 : Int32) (M_5 : z_Mem) => (q_st (z_sfi M_5 1157 a x_5) (fun (M_6 : z_Mem) => M_6))))))
set_option maxRecDepth 100000 in
theorem cE_X9_arrive (a : Nat) (p1 : Int32) (p2 : Int32) (M : z_Mem) : cF_X9_arrive a p1 p2 M = (q_st (cF_X11_markRow (z_fr M 1161 a) p1 p2 M) (fun (M_2 : z_Mem) => (q_st2 (cF_X11_lengthOfPrefix (z_fr M_2 1161 a) (z_fi M_2 1157 a) M_2) (fun (x_5 : Int32) (M_5 : z_Mem) => (q_st (z_sfi M_5 1157 a x_5) (fun (M_6 : z_Mem) => M_6)))))) := rfl
set_option maxRecDepth 100000 in
set_option maxHeartbeats 4000000 in
theorem cS_X9_arrive {Q Post : z_Mem → Prop} {a : Nat} {p1 : Int32} {p2 : Int32} {M : z_Mem} (H : P_X9_arrive a p1 p2 M Q) (K : ∀ M1, Q M1 → cF_X9_arrive a p1 p2 M = M1 → Post M1) : P_X9_arrive a p1 p2 M Post := by
  have hF := cE_X9_arrive a p1 p2 M
  unfold P_X9_arrive at H ⊢
  refine cS_X11_markRow H (fun M_2 H u => ?_)
  replace hF := hF.trans (q_ste u.symm)
  refine cS_X11_lengthOfPrefix H (fun x_5 M_5 H u => ?_)
  replace hF := hF.trans (q_ste2 u)
  intro M_6 e_M_6
  replace H := H M_6 e_M_6
  replace hF := hF.trans (q_ste e_M_6)
  exact K _ H hF
set_option maxRecDepth 100000 in
noncomputable def cF_X8_hearData_169 (a : Nat) (x4 : Int32) (M : z_Mem) : z_Mem := (if (x4 = 0) then (q_st (Option.getD (z_fr M 1024 a) 0) (fun (a3 : Nat) => (q_st (z_sfi M 1037 a ((z_fi M 645 a3) + 3)) (fun (M_5 : z_Mem) => M_5)))) else (q_st (cF_X8_acknowledge a M) (fun (M_6 : z_Mem) => M_6)))
set_option maxRecDepth 100000 in
theorem cE_X8_hearData_169 (a : Nat) (x4 : Int32) (M : z_Mem) : cF_X8_hearData_169 a x4 M = (if (x4 = 0) then (q_st (Option.getD (z_fr M 1024 a) 0) (fun (a3 : Nat) => (q_st (z_sfi M 1037 a ((z_fi M 645 a3) + 3)) (fun (M_5 : z_Mem) => M_5)))) else (q_st (cF_X8_acknowledge a M) (fun (M_6 : z_Mem) => M_6))) := rfl
set_option maxRecDepth 100000 in
set_option maxHeartbeats 4000000 in
theorem cS_X8_hearData_169 {Q Post : z_Mem → Prop} {a : Nat} {x4 : Int32} {M : z_Mem} (H : P_X8_hearData_169 a Q x4 M) (K : ∀ M1, Q M1 → cF_X8_hearData_169 a x4 M = M1 → Post M1) : P_X8_hearData_169 a Post x4 M := by
  have hF := cE_X8_hearData_169 a x4 M
  unfold P_X8_hearData_169 at H ⊢
  refine And.intro (fun c1 => ?_) (fun c1 => ?_)
  · replace H := H.1 c1
    replace hF := hF.trans (if_pos c1)
    obtain ⟨a3, e_a3, H⟩ := H
    refine z_nn_of e_a3 ?_
    replace hF := hF.trans (q_ste (q_gd e_a3))
    intro M_5 e_M_5
    replace H := H M_5 e_M_5
    replace hF := hF.trans (q_ste e_M_5)
    exact K _ H hF
  · replace H := H.2 c1
    replace hF := hF.trans (if_neg c1)
    refine cS_X8_acknowledge H (fun M_6 H u => ?_)
    replace hF := hF.trans (q_ste u.symm)
    exact K _ H hF
set_option maxRecDepth 100000 in
noncomputable def cF_X8_hearData_121 (a : Nat) (x1 : Option Nat) (x3 : Int32) (t0 : Int32) (M : z_Mem) : z_Mem := (q_st (Option.getD (z_fr M 1033 a) 0) (fun (a8 : Nat) => (q_st (z_sai M a8 (x3 : Int32).toNatClampNeg 1) (fun (M_10 : z_Mem) => (q_st (z_sfi M_10 1034 a ((if ((z_fi M_10 1034 a) < x3) then x3 else (z_fi M_10 1034 a)) : Int32)) (fun (M_12 : z_Mem) => (q_st (z_sfi M_12 1036 a ((z_fi M_12 1036 a) + 1)) (fun (M_14 : z_Mem) => (q_st (Option.getD x1 0) (fun (a15 : Nat) => (if ((z_fi M_14 777 a15) = 0) then (cF_X8_hearData_169 a t0 M_14) else (q_st (z_sfi M_14 1035 a ((z_fi M_14 1035 a) + 1)) (fun (M_19 : z_Mem) => (cF_X8_hearData_169 a t0 M_19))))))))))))))
set_option maxRecDepth 100000 in
theorem cE_X8_hearData_121 (a : Nat) (x1 : Option Nat) (x3 : Int32) (t0 : Int32) (M : z_Mem) : cF_X8_hearData_121 a x1 x3 t0 M = (q_st (Option.getD (z_fr M 1033 a) 0) (fun (a8 : Nat) => (q_st (z_sai M a8 (x3 : Int32).toNatClampNeg 1) (fun (M_10 : z_Mem) => (q_st (z_sfi M_10 1034 a ((if ((z_fi M_10 1034 a) < x3) then x3 else (z_fi M_10 1034 a)) : Int32)) (fun (M_12 : z_Mem) => (q_st (z_sfi M_12 1036 a ((z_fi M_12 1036 a) + 1)) (fun (M_14 : z_Mem) => (q_st (Option.getD x1 0) (fun (a15 : Nat) => (if ((z_fi M_14 777 a15) = 0) then (cF_X8_hearData_169 a t0 M_14) else (q_st (z_sfi M_14 1035 a ((z_fi M_14 1035 a) + 1)) (fun (M_19 : z_Mem) => (cF_X8_hearData_169 a t0 M_19)))))))))))))) := rfl
set_option maxRecDepth 100000 in
set_option maxHeartbeats 4000000 in
theorem cS_X8_hearData_121 {Q Post : z_Mem → Prop} {a : Nat} {x1 : Option Nat} {x3 : Int32} {t0 : Int32} {M : z_Mem} (H : P_X8_hearData_121 a Q x1 x3 t0 M) (K : ∀ M1, Q M1 → cF_X8_hearData_121 a x1 x3 t0 M = M1 → Post M1) : P_X8_hearData_121 a Post x1 x3 t0 M := by
  have hF := cE_X8_hearData_121 a x1 x3 t0 M
  unfold P_X8_hearData_121 at H ⊢
  obtain ⟨a8, e_a8, H⟩ := H
  refine z_nn_of e_a8 ?_
  replace hF := hF.trans (q_ste (q_gd e_a8))
  refine And.intro H.1 ?_
  replace H := H.2
  intro M_10 e_M_10
  replace H := H M_10 e_M_10
  replace hF := hF.trans (q_ste e_M_10)
  intro M_12 e_M_12
  replace H := H M_12 e_M_12
  replace hF := hF.trans (q_ste e_M_12)
  intro M_14 e_M_14
  replace H := H M_14 e_M_14
  replace hF := hF.trans (q_ste e_M_14)
  obtain ⟨a15, e_a15, H⟩ := H
  refine z_nn_of e_a15 ?_
  replace hF := hF.trans (q_ste (q_gd e_a15))
  refine And.intro (fun c1 => ?_) (fun c1 => ?_)
  · replace H := H.1 c1
    replace hF := hF.trans (if_pos c1)
    exact cS_X8_hearData_169 H (fun M1 q u => K M1 q (hF.trans u))
  · replace H := H.2 c1
    replace hF := hF.trans (if_neg c1)
    intro M_19 e_M_19
    replace H := H M_19 e_M_19
    replace hF := hF.trans (q_ste e_M_19)
    exact cS_X8_hearData_169 H (fun M1 q u => K M1 q (hF.trans u))
set_option maxRecDepth 100000 in
noncomputable def cF_X8_hearData_116 (a : Nat) (x1 : Option Nat) (x3 : Int32) (M : z_Mem) : z_Mem := (cF_X8_hearData_121 a x1 x3 1 M)
set_option maxRecDepth 100000 in
theorem cE_X8_hearData_116 (a : Nat) (x1 : Option Nat) (x3 : Int32) (M : z_Mem) : cF_X8_hearData_116 a x1 x3 M = (cF_X8_hearData_121 a x1 x3 1 M) := rfl
set_option maxRecDepth 100000 in
set_option maxHeartbeats 4000000 in
theorem cS_X8_hearData_116 {Q Post : z_Mem → Prop} {a : Nat} {x1 : Option Nat} {x3 : Int32} {M : z_Mem} (H : P_X8_hearData_116 a Q x1 x3 M) (K : ∀ M1, Q M1 → cF_X8_hearData_116 a x1 x3 M = M1 → Post M1) : P_X8_hearData_116 a Post x1 x3 M := by
  have hF := cE_X8_hearData_116 a x1 x3 M
  unfold P_X8_hearData_116 at H ⊢
  exact cS_X8_hearData_121 H (fun M1 q u => K M1 q (hF.trans u))
set_option maxRecDepth 100000 in
noncomputable def cF_X8_hearData_92 (a : Nat) (x1 : Option Nat) (x3 : Int32) (M : z_Mem) : z_Mem := (q_st (Option.getD x1 0) (fun (a20 : Nat) => (if ((z_fi M 775 a20) = 0) then (if (x3 = ((z_fi M 1034 a) + 1)) then (if ((z_fi M 1036 a) ≤ 0) then (cF_X8_hearData_121 a x1 x3 0 M) else (cF_X8_hearData_116 a x1 x3 M)) else (cF_X8_hearData_116 a x1 x3 M)) else (cF_X8_hearData_116 a x1 x3 M))))
set_option maxRecDepth 100000 in
theorem cE_X8_hearData_92 (a : Nat) (x1 : Option Nat) (x3 : Int32) (M : z_Mem) : cF_X8_hearData_92 a x1 x3 M = (q_st (Option.getD x1 0) (fun (a20 : Nat) => (if ((z_fi M 775 a20) = 0) then (if (x3 = ((z_fi M 1034 a) + 1)) then (if ((z_fi M 1036 a) ≤ 0) then (cF_X8_hearData_121 a x1 x3 0 M) else (cF_X8_hearData_116 a x1 x3 M)) else (cF_X8_hearData_116 a x1 x3 M)) else (cF_X8_hearData_116 a x1 x3 M)))) := rfl
set_option maxRecDepth 100000 in
set_option maxHeartbeats 4000000 in
theorem cS_X8_hearData_92 {Q Post : z_Mem → Prop} {a : Nat} {x1 : Option Nat} {x3 : Int32} {M : z_Mem} (H : P_X8_hearData_92 a Q x1 x3 M) (K : ∀ M1, Q M1 → cF_X8_hearData_92 a x1 x3 M = M1 → Post M1) : P_X8_hearData_92 a Post x1 x3 M := by
  have hF := cE_X8_hearData_92 a x1 x3 M
  unfold P_X8_hearData_92 at H ⊢
  obtain ⟨a20, e_a20, H⟩ := H
  refine z_nn_of e_a20 ?_
  replace hF := hF.trans (q_ste (q_gd e_a20))
  refine And.intro (fun c1 => ?_) (fun c1 => ?_)
  · replace H := H.1 c1
    replace hF := hF.trans (if_pos c1)
    refine And.intro (fun c2 => ?_) (fun c2 => ?_)
    · replace H := H.1 c2
      replace hF := hF.trans (if_pos c2)
      refine And.intro (fun c3 => ?_) (fun c3 => ?_)
      · replace H := H.1 c3
        replace hF := hF.trans (if_pos c3)
        exact cS_X8_hearData_121 H (fun M1 q u => K M1 q (hF.trans u))
      · replace H := H.2 c3
        replace hF := hF.trans (if_neg c3)
        exact cS_X8_hearData_116 H (fun M1 q u => K M1 q (hF.trans u))
    · replace H := H.2 c2
      replace hF := hF.trans (if_neg c2)
      exact cS_X8_hearData_116 H (fun M1 q u => K M1 q (hF.trans u))
  · replace H := H.2 c1
    replace hF := hF.trans (if_neg c1)
    exact cS_X8_hearData_116 H (fun M1 q u => K M1 q (hF.trans u))
set_option maxRecDepth 100000 in
noncomputable def cF_X8_hearData_19 (a : Nat) (x1 : Option Nat) (t0 : Int32) (M : z_Mem) : z_Mem := (q_st (Option.getD x1 0) (fun (a27 : Nat) => (q_st (z_fi M 768 a27) (fun (x_29 : Int32) => (if (t0 = 0) then (q_st2 (cF_X8_takesKey a (z_fi M 774 a27) M) (fun (x_32 : Int32) (M_32 : z_Mem) => (if (x_32 = 0) then M_32 else (if (x_29 < 0) then M_32 else (if (x_29 < 400) then (q_st (z_sfi M_32 779 a27 1) (fun (M_36 : z_Mem) => (if ((z_fi M_36 771 a27) < 0) then (cF_X8_hearData_92 a x1 x_29 M_36) else (if (4 ≤ (z_fi M_36 771 a27)) then (cF_X8_hearData_92 a x1 x_29 M_36) else (q_st (Option.getD (z_fr M_36 1025 a) 0) (fun (a43 : Nat) => (q_st (Option.getD (z_ar M_36 a43 ((z_fi M_36 771 a27) : Int32).toNatClampNeg) 0) (fun (a48 : Nat) => (q_st (cF_X9_arrive a48 (z_fi M_36 772 a27) (z_fi M_36 773 a27) M_36) (fun (M_47 : z_Mem) => (cF_X8_hearData_92 a x1 x_29 M_47))))))))))) else M_32))))) else M)))))
set_option maxRecDepth 100000 in
theorem cE_X8_hearData_19 (a : Nat) (x1 : Option Nat) (t0 : Int32) (M : z_Mem) : cF_X8_hearData_19 a x1 t0 M = (q_st (Option.getD x1 0) (fun (a27 : Nat) => (q_st (z_fi M 768 a27) (fun (x_29 : Int32) => (if (t0 = 0) then (q_st2 (cF_X8_takesKey a (z_fi M 774 a27) M) (fun (x_32 : Int32) (M_32 : z_Mem) => (if (x_32 = 0) then M_32 else (if (x_29 < 0) then M_32 else (if (x_29 < 400) then (q_st (z_sfi M_32 779 a27 1) (fun (M_36 : z_Mem) => (if ((z_fi M_36 771 a27) < 0) then (cF_X8_hearData_92 a x1 x_29 M_36) else (if (4 ≤ (z_fi M_36 771 a27)) then (cF_X8_hearData_92 a x1 x_29 M_36) else (q_st (Option.getD (z_fr M_36 1025 a) 0) (fun (a43 : Nat) => (q_st (Option.getD (z_ar M_36 a43 ((z_fi M_36 771 a27) : Int32).toNatClampNeg) 0) (fun (a48 : Nat) => (q_st (cF_X9_arrive a48 (z_fi M_36 772 a27) (z_fi M_36 773 a27) M_36) (fun (M_47 : z_Mem) => (cF_X8_hearData_92 a x1 x_29 M_47))))))))))) else M_32))))) else M))))) := rfl
set_option maxRecDepth 100000 in
set_option maxHeartbeats 4000000 in
theorem cS_X8_hearData_19 {Q Post : z_Mem → Prop} {a : Nat} {x1 : Option Nat} {t0 : Int32} {M : z_Mem} (H : P_X8_hearData_19 a Q x1 t0 M) (K : ∀ M1, Q M1 → cF_X8_hearData_19 a x1 t0 M = M1 → Post M1) : P_X8_hearData_19 a Post x1 t0 M := by
  have hF := cE_X8_hearData_19 a x1 t0 M
  unfold P_X8_hearData_19 at H ⊢
  obtain ⟨a27, e_a27, H⟩ := H
  refine z_nn_of e_a27 ?_
  replace hF := hF.trans (q_ste (q_gd e_a27))
  intro x_29 e_x_29
  replace H := H x_29 e_x_29
  replace hF := hF.trans (q_ste e_x_29)
  refine And.intro (fun c1 => ?_) (fun c1 => ?_)
  · replace H := H.1 c1
    replace hF := hF.trans (if_pos c1)
    refine cS_X8_takesKey H (fun x_32 M_32 H u => ?_)
    replace hF := hF.trans (q_ste2 u)
    refine And.intro (fun c2 => ?_) (fun c2 => ?_)
    · replace H := H.1 c2
      replace hF := hF.trans (if_pos c2)
      exact K _ H hF
    · replace H := H.2 c2
      replace hF := hF.trans (if_neg c2)
      refine And.intro (fun c3 => ?_) (fun c3 => ?_)
      · replace H := H.1 c3
        replace hF := hF.trans (if_pos c3)
        exact K _ H hF
      · replace H := H.2 c3
        replace hF := hF.trans (if_neg c3)
        refine And.intro (fun c4 => ?_) (fun c4 => ?_)
        · replace H := H.1 c4
          replace hF := hF.trans (if_pos c4)
          intro M_36 e_M_36
          replace H := H M_36 e_M_36
          replace hF := hF.trans (q_ste e_M_36)
          refine And.intro (fun c5 => ?_) (fun c5 => ?_)
          · replace H := H.1 c5
            replace hF := hF.trans (if_pos c5)
            exact cS_X8_hearData_92 H (fun M1 q u => K M1 q (hF.trans u))
          · replace H := H.2 c5
            replace hF := hF.trans (if_neg c5)
            refine And.intro (fun c6 => ?_) (fun c6 => ?_)
            · replace H := H.1 c6
              replace hF := hF.trans (if_pos c6)
              exact cS_X8_hearData_92 H (fun M1 q u => K M1 q (hF.trans u))
            · replace H := H.2 c6
              replace hF := hF.trans (if_neg c6)
              obtain ⟨a43, e_a43, H⟩ := H
              refine z_nn_of e_a43 ?_
              replace hF := hF.trans (q_ste (q_gd e_a43))
              refine And.intro H.1 ?_
              replace H := H.2
              obtain ⟨a48, e_a48, H⟩ := H
              refine z_nn_of e_a48 ?_
              replace hF := hF.trans (q_ste (q_gd e_a48))
              refine cS_X9_arrive H (fun M_47 H u => ?_)
              replace hF := hF.trans (q_ste u.symm)
              exact cS_X8_hearData_92 H (fun M1 q u => K M1 q (hF.trans u))
        · replace H := H.2 c4
          replace hF := hF.trans (if_neg c4)
          exact K _ H hF
  · replace H := H.2 c1
    replace hF := hF.trans (if_neg c1)
    exact K _ H hF
set_option maxRecDepth 100000 in
noncomputable def cF_X8_hearData_18 (a : Nat) (x1 : Option Nat) (M : z_Mem) : z_Mem := (cF_X8_hearData_19 a x1 0 M)
set_option maxRecDepth 100000 in
theorem cE_X8_hearData_18 (a : Nat) (x1 : Option Nat) (M : z_Mem) : cF_X8_hearData_18 a x1 M = (cF_X8_hearData_19 a x1 0 M) := rfl
set_option maxRecDepth 100000 in
set_option maxHeartbeats 4000000 in
theorem cS_X8_hearData_18 {Q Post : z_Mem → Prop} {a : Nat} {x1 : Option Nat} {M : z_Mem} (H : P_X8_hearData_18 a Q x1 M) (K : ∀ M1, Q M1 → cF_X8_hearData_18 a x1 M = M1 → Post M1) : P_X8_hearData_18 a Post x1 M := by
  have hF := cE_X8_hearData_18 a x1 M
  unfold P_X8_hearData_18 at H ⊢
  exact cS_X8_hearData_19 H (fun M1 q u => K M1 q (hF.trans u))
set_option maxRecDepth 100000 in
noncomputable def cF_X8_hearData (a : Nat) (p1 : Option Nat) (M : z_Mem) : z_Mem := (q_st (Option.getD p1 0) (fun (a49 : Nat) => (if ((z_fi M 776 a49) = 0) then (cF_X8_hearData_18 a p1 M) else (if ((z_fi M 1028 a) = 0) then (cF_X8_hearData_19 a p1 1 M) else (cF_X8_hearData_18 a p1 M)))))
set_option maxRecDepth 100000 in
theorem cE_X8_hearData (a : Nat) (p1 : Option Nat) (M : z_Mem) : cF_X8_hearData a p1 M = (q_st (Option.getD p1 0) (fun (a49 : Nat) => (if ((z_fi M 776 a49) = 0) then (cF_X8_hearData_18 a p1 M) else (if ((z_fi M 1028 a) = 0) then (cF_X8_hearData_19 a p1 1 M) else (cF_X8_hearData_18 a p1 M))))) := rfl
set_option maxRecDepth 100000 in
set_option maxHeartbeats 4000000 in
theorem cS_X8_hearData {Q Post : z_Mem → Prop} {a : Nat} {p1 : Option Nat} {M : z_Mem} (H : P_X8_hearData a p1 M Q) (K : ∀ M1, Q M1 → cF_X8_hearData a p1 M = M1 → Post M1) : P_X8_hearData a p1 M Post := by
  have hF := cE_X8_hearData a p1 M
  unfold P_X8_hearData at H ⊢
  obtain ⟨a49, e_a49, H⟩ := H
  refine z_nn_of e_a49 ?_
  replace hF := hF.trans (q_ste (q_gd e_a49))
  refine And.intro (fun c1 => ?_) (fun c1 => ?_)
  · replace H := H.1 c1
    replace hF := hF.trans (if_pos c1)
    exact cS_X8_hearData_18 H (fun M1 q u => K M1 q (hF.trans u))
  · replace H := H.2 c1
    replace hF := hF.trans (if_neg c1)
    refine And.intro (fun c2 => ?_) (fun c2 => ?_)
    · replace H := H.1 c2
      replace hF := hF.trans (if_pos c2)
      exact cS_X8_hearData_19 H (fun M1 q u => K M1 q (hF.trans u))
    · replace H := H.2 c2
      replace hF := hF.trans (if_neg c2)
      exact cS_X8_hearData_18 H (fun M1 q u => K M1 q (hF.trans u))
set_option maxRecDepth 100000 in
noncomputable def cF_X8_hearWhenEstablished (a : Nat) (p1 : Option Nat) (M : z_Mem) : z_Mem := (q_st (Option.getD p1 0) (fun (a1 : Nat) => (if ((z_fi M 512 a1) = 5) then (q_st (z_new M 5 8) (fun (M_16 : z_Mem) => (q_st (cF_X4_init (z_sz M) 6 M_16) (fun (M_17 : z_Mem) => (q_st (Option.getD (z_fr M 1024 a) 0) (fun (a19 : Nat) => (q_st (cF_X5_putToClient a19 (z_fi M 513 a1) (some (z_sz M)) M_17) (fun (M_18 : z_Mem) => M_18)))))))) else (if ((z_fi M 512 a1) = 7) then (q_st (z_sfi M 1026 a 2) (fun (M_12 : z_Mem) => M_12)) else (q_op (z_fr M 515 a1) M (fun a7 => (q_st (z_sfi M 1038 a (z_fi M 513 a1)) (fun (M_9 : z_Mem) => (q_st (cF_X8_hearData a (z_fr M_9 515 a1) M_9) (fun (M_11 : z_Mem) => M_11))))))))))
set_option maxRecDepth 100000 in
theorem cE_X8_hearWhenEstablished (a : Nat) (p1 : Option Nat) (M : z_Mem) : cF_X8_hearWhenEstablished a p1 M = (q_st (Option.getD p1 0) (fun (a1 : Nat) => (if ((z_fi M 512 a1) = 5) then (q_st (z_new M 5 8) (fun (M_16 : z_Mem) => (q_st (cF_X4_init (z_sz M) 6 M_16) (fun (M_17 : z_Mem) => (q_st (Option.getD (z_fr M 1024 a) 0) (fun (a19 : Nat) => (q_st (cF_X5_putToClient a19 (z_fi M 513 a1) (some (z_sz M)) M_17) (fun (M_18 : z_Mem) => M_18)))))))) else (if ((z_fi M 512 a1) = 7) then (q_st (z_sfi M 1026 a 2) (fun (M_12 : z_Mem) => M_12)) else (q_op (z_fr M 515 a1) M (fun a7 => (q_st (z_sfi M 1038 a (z_fi M 513 a1)) (fun (M_9 : z_Mem) => (q_st (cF_X8_hearData a (z_fr M_9 515 a1) M_9) (fun (M_11 : z_Mem) => M_11)))))))))) := rfl
set_option maxRecDepth 100000 in
set_option maxHeartbeats 4000000 in
theorem cS_X8_hearWhenEstablished {Q Post : z_Mem → Prop} {a : Nat} {p1 : Option Nat} {M : z_Mem} (H : P_X8_hearWhenEstablished a p1 M Q) (K : ∀ M1, Q M1 → cF_X8_hearWhenEstablished a p1 M = M1 → Post M1) : P_X8_hearWhenEstablished a p1 M Post := by
  have hF := cE_X8_hearWhenEstablished a p1 M
  unfold P_X8_hearWhenEstablished at H ⊢
  obtain ⟨a1, e_a1, H⟩ := H
  refine z_nn_of e_a1 ?_
  replace hF := hF.trans (q_ste (q_gd e_a1))
  refine And.intro (fun c1 => ?_) (fun c1 => ?_)
  · replace H := H.1 c1
    replace hF := hF.trans (if_pos c1)
    refine And.intro H.1 ?_
    replace H := H.2
    intro M_16 e_M_16
    replace H := H M_16 e_M_16
    replace hF := hF.trans (q_ste e_M_16)
    refine cS_X4_init H (fun M_17 H u => ?_)
    replace hF := hF.trans (q_ste u.symm)
    obtain ⟨a19, e_a19, H⟩ := H
    refine z_nn_of e_a19 ?_
    replace hF := hF.trans (q_ste (q_gd e_a19))
    refine cS_X5_putToClient H (fun M_18 H u => ?_)
    replace hF := hF.trans (q_ste u.symm)
    exact K _ H hF
  · replace H := H.2 c1
    replace hF := hF.trans (if_neg c1)
    refine And.intro (fun c2 => ?_) (fun c2 => ?_)
    · replace H := H.1 c2
      replace hF := hF.trans (if_pos c2)
      intro M_12 e_M_12
      replace H := H M_12 e_M_12
      replace hF := hF.trans (q_ste e_M_12)
      exact K _ H hF
    · replace H := H.2 c2
      replace hF := hF.trans (if_neg c2)
      refine And.intro (fun c3 => ?_) (fun a7 c3 => ?_)
      · replace H := H.1 c3
        replace hF := hF.trans (q_opn c3)
        exact K _ H hF
      · replace H := H.2 a7 c3
        replace hF := hF.trans (q_ops c3)
        intro M_9 e_M_9
        replace H := H M_9 e_M_9
        replace hF := hF.trans (q_ste e_M_9)
        refine cS_X8_hearData H (fun M_11 H u => ?_)
        replace hF := hF.trans (q_ste u.symm)
        exact K _ H hF
set_option maxRecDepth 100000 in
noncomputable def cF_X8_hear_15 (a : Nat) (x1 : Option Nat) (M : z_Mem) : z_Mem := (if ((z_fi M 1026 a) = 2) then M else (q_st (Option.getD x1 0) (fun (a3 : Nat) => (if ((z_fi M 512 a3) = 0) then (q_st (cF_X8_hearHello a x1 M) (fun (M_18 : z_Mem) => M_18)) else (if ((z_fi M 1026 a) = 3) then (q_st (z_new M 5 8) (fun (M_14 : z_Mem) => (q_st (cF_X4_init (z_sz M) 8 M_14) (fun (M_15 : z_Mem) => (q_st (Option.getD (z_fr M 1024 a) 0) (fun (a17 : Nat) => (q_st (cF_X5_putToClient a17 (z_fi M 513 a3) (some (z_sz M)) M_15) (fun (M_16 : z_Mem) => M_16)))))))) else (if ((z_fi M 1026 a) = 1) then (q_st (cF_X8_hearWhenEstablished a x1 M) (fun (M_10 : z_Mem) => M_10)) else M))))))
set_option maxRecDepth 100000 in
theorem cE_X8_hear_15 (a : Nat) (x1 : Option Nat) (M : z_Mem) : cF_X8_hear_15 a x1 M = (if ((z_fi M 1026 a) = 2) then M else (q_st (Option.getD x1 0) (fun (a3 : Nat) => (if ((z_fi M 512 a3) = 0) then (q_st (cF_X8_hearHello a x1 M) (fun (M_18 : z_Mem) => M_18)) else (if ((z_fi M 1026 a) = 3) then (q_st (z_new M 5 8) (fun (M_14 : z_Mem) => (q_st (cF_X4_init (z_sz M) 8 M_14) (fun (M_15 : z_Mem) => (q_st (Option.getD (z_fr M 1024 a) 0) (fun (a17 : Nat) => (q_st (cF_X5_putToClient a17 (z_fi M 513 a3) (some (z_sz M)) M_15) (fun (M_16 : z_Mem) => M_16)))))))) else (if ((z_fi M 1026 a) = 1) then (q_st (cF_X8_hearWhenEstablished a x1 M) (fun (M_10 : z_Mem) => M_10)) else M)))))) := rfl
set_option maxRecDepth 100000 in
set_option maxHeartbeats 4000000 in
theorem cS_X8_hear_15 {Q Post : z_Mem → Prop} {a : Nat} {x1 : Option Nat} {M : z_Mem} (H : P_X8_hear_15 a Q x1 M) (K : ∀ M1, Q M1 → cF_X8_hear_15 a x1 M = M1 → Post M1) : P_X8_hear_15 a Post x1 M := by
  have hF := cE_X8_hear_15 a x1 M
  unfold P_X8_hear_15 at H ⊢
  refine And.intro (fun c1 => ?_) (fun c1 => ?_)
  · replace H := H.1 c1
    replace hF := hF.trans (if_pos c1)
    exact K _ H hF
  · replace H := H.2 c1
    replace hF := hF.trans (if_neg c1)
    obtain ⟨a3, e_a3, H⟩ := H
    refine z_nn_of e_a3 ?_
    replace hF := hF.trans (q_ste (q_gd e_a3))
    refine And.intro (fun c2 => ?_) (fun c2 => ?_)
    · replace H := H.1 c2
      replace hF := hF.trans (if_pos c2)
      refine cS_X8_hearHello H (fun M_18 H u => ?_)
      replace hF := hF.trans (q_ste u.symm)
      exact K _ H hF
    · replace H := H.2 c2
      replace hF := hF.trans (if_neg c2)
      refine And.intro (fun c3 => ?_) (fun c3 => ?_)
      · replace H := H.1 c3
        replace hF := hF.trans (if_pos c3)
        refine And.intro H.1 ?_
        replace H := H.2
        intro M_14 e_M_14
        replace H := H M_14 e_M_14
        replace hF := hF.trans (q_ste e_M_14)
        refine cS_X4_init H (fun M_15 H u => ?_)
        replace hF := hF.trans (q_ste u.symm)
        obtain ⟨a17, e_a17, H⟩ := H
        refine z_nn_of e_a17 ?_
        replace hF := hF.trans (q_ste (q_gd e_a17))
        refine cS_X5_putToClient H (fun M_16 H u => ?_)
        replace hF := hF.trans (q_ste u.symm)
        exact K _ H hF
      · replace H := H.2 c3
        replace hF := hF.trans (if_neg c3)
        refine And.intro (fun c4 => ?_) (fun c4 => ?_)
        · replace H := H.1 c4
          replace hF := hF.trans (if_pos c4)
          refine cS_X8_hearWhenEstablished H (fun M_10 H u => ?_)
          replace hF := hF.trans (q_ste u.symm)
          exact K _ H hF
        · replace H := H.2 c4
          replace hF := hF.trans (if_neg c4)
          exact K _ H hF
set_option maxRecDepth 100000 in
noncomputable def cF_X8_hear (a : Nat) (p1 : Option Nat) (M : z_Mem) : z_Mem := (q_st (Option.getD p1 0) (fun (a19 : Nat) => (q_op (z_fr M 515 a19) (cF_X8_hear_15 a p1 M) (fun a21 => (q_st (Option.getD (z_fr M 515 a19) 0) (fun (a23 : Nat) => (q_st (z_sfi M 779 a23 2) (fun (M_24 : z_Mem) => (cF_X8_hear_15 a p1 M_24)))))))))
set_option maxRecDepth 100000 in
theorem cE_X8_hear (a : Nat) (p1 : Option Nat) (M : z_Mem) : cF_X8_hear a p1 M = (q_st (Option.getD p1 0) (fun (a19 : Nat) => (q_op (z_fr M 515 a19) (cF_X8_hear_15 a p1 M) (fun a21 => (q_st (Option.getD (z_fr M 515 a19) 0) (fun (a23 : Nat) => (q_st (z_sfi M 779 a23 2) (fun (M_24 : z_Mem) => (cF_X8_hear_15 a p1 M_24))))))))) := rfl
set_option maxRecDepth 100000 in
set_option maxHeartbeats 4000000 in
theorem cS_X8_hear {Q Post : z_Mem → Prop} {a : Nat} {p1 : Option Nat} {M : z_Mem} (H : P_X8_hear a p1 M Q) (K : ∀ M1, Q M1 → cF_X8_hear a p1 M = M1 → Post M1) : P_X8_hear a p1 M Post := by
  have hF := cE_X8_hear a p1 M
  unfold P_X8_hear at H ⊢
  obtain ⟨a19, e_a19, H⟩ := H
  refine z_nn_of e_a19 ?_
  replace hF := hF.trans (q_ste (q_gd e_a19))
  refine And.intro (fun c1 => ?_) (fun a21 c1 => ?_)
  · replace H := H.1 c1
    replace hF := hF.trans (q_opn c1)
    exact cS_X8_hear_15 H (fun M1 q u => K M1 q (hF.trans u))
  · replace H := H.2 a21 c1
    replace hF := hF.trans (q_ops c1)
    obtain ⟨a23, e_a23, H⟩ := H
    refine z_nn_of e_a23 ?_
    replace hF := hF.trans (q_ste (q_gd e_a23))
    intro M_24 e_M_24
    replace H := H M_24 e_M_24
    replace hF := hF.trans (q_ste e_M_24)
    exact cS_X8_hear_15 H (fun M1 q u => K M1 q (hF.trans u))
set_option maxRecDepth 100000 in
noncomputable def cB_X8_hearAll_11 (a : Nat) (x1 : Int32) (M : z_Mem) : (Int32 × z_Mem) ⊕ z_Mem := (if (x1 ≤ 0) then (.inr M) else (q_st (Option.getD (z_fr M 1024 a) 0) (fun (a3 : Nat) => (q_st (Option.getD (z_fr M 1024 a) 0) (fun (a6 : Nat) => (q_st (Option.getD (z_fr M 642 a3) 0) (fun (a9 : Nat) => (q_st2 (cF_X10_takeDue a9 (z_fi M 645 a6) M) (fun (x_8 : Option Nat) (M_8 : z_Mem) => (q_op x_8 (.inr M_8) (fun a10 => (q_st (cF_X8_hear a x_8 M_8) (fun (M_11 : z_Mem) => (q_st (x1 + (-1)) (fun (x_12 : Int32) => (.inl (x_12, M_11)))))))))))))))))
set_option maxRecDepth 100000 in
noncomputable def cF_X8_hearAll_11 (a : Nat) (x1 : Int32) (M : z_Mem) : z_Mem := q_lp (X := (Int32 × z_Mem)) (Y := z_Mem) M (fun t => cB_X8_hearAll_11 a t.1 t.2) (x1, M)
set_option maxRecDepth 100000 in
theorem cUl_X8_hearAll_11 {a : Nat} {x1 : Int32} {M : z_Mem} {y_x1 : Int32} {M1 : z_Mem} (h : cB_X8_hearAll_11 a x1 M = .inl (y_x1, M1)) : cF_X8_hearAll_11 a x1 M = cF_X8_hearAll_11 a y_x1 M1 := q_lpl (step := fun t => cB_X8_hearAll_11 a t.1 t.2) h
set_option maxRecDepth 100000 in
theorem cUr_X8_hearAll_11 {a : Nat} {x1 : Int32} {M : z_Mem} {y : z_Mem} (h : cB_X8_hearAll_11 a x1 M = .inr y) : cF_X8_hearAll_11 a x1 M = y := q_lpr (step := fun t => cB_X8_hearAll_11 a t.1 t.2) h
set_option maxRecDepth 100000 in
theorem cE_X8_hearAll_11 (a : Nat) (x1 : Int32) (M : z_Mem) : cB_X8_hearAll_11 a x1 M = (if (x1 ≤ 0) then (.inr M) else (q_st (Option.getD (z_fr M 1024 a) 0) (fun (a3 : Nat) => (q_st (Option.getD (z_fr M 1024 a) 0) (fun (a6 : Nat) => (q_st (Option.getD (z_fr M 642 a3) 0) (fun (a9 : Nat) => (q_st2 (cF_X10_takeDue a9 (z_fi M 645 a6) M) (fun (x_8 : Option Nat) (M_8 : z_Mem) => (q_op x_8 (.inr M_8) (fun a10 => (q_st (cF_X8_hear a x_8 M_8) (fun (M_11 : z_Mem) => (q_st (x1 + (-1)) (fun (x_12 : Int32) => (.inl (x_12, M_11))))))))))))))))) := rfl
set_option maxRecDepth 100000 in
set_option maxHeartbeats 4000000 in
theorem cS_X8_hearAll_11 {Q Post : z_Mem → Prop} {a : Nat} : ∀ (m : Nat) {x1 : Int32} {M : z_Mem} (H : P_X8_hearAll_11 a Q m x1 M) (K : ∀ M1, Q M1 → cF_X8_hearAll_11 a x1 M = M1 → Post M1), P_X8_hearAll_11 a Post m x1 M := by
  intro m
  induction m with
  | zero => intros; rename_i H _; exact False.elim H
  | succ m ih =>
    intro x1 M H K
    have hF := cE_X8_hearAll_11 a x1 M
    unfold P_X8_hearAll_11 at H ⊢
    refine And.intro (fun c1 => ?_) (fun c1 => ?_)
    · replace H := H.1 c1
      replace hF := hF.trans (if_pos c1)
      exact K _ H (cUr_X8_hearAll_11 hF)
    · replace H := H.2 c1
      replace hF := hF.trans (if_neg c1)
      obtain ⟨a3, e_a3, H⟩ := H
      refine z_nn_of e_a3 ?_
      replace hF := hF.trans (q_ste (q_gd e_a3))
      obtain ⟨a6, e_a6, H⟩ := H
      refine z_nn_of e_a6 ?_
      replace hF := hF.trans (q_ste (q_gd e_a6))
      obtain ⟨a9, e_a9, H⟩ := H
      refine z_nn_of e_a9 ?_
      replace hF := hF.trans (q_ste (q_gd e_a9))
      refine cS_X10_takeDue H (fun x_8 M_8 H u => ?_)
      replace hF := hF.trans (q_ste2 u)
      refine And.intro (fun c2 => ?_) (fun a10 c2 => ?_)
      · replace H := H.1 c2
        replace hF := hF.trans (q_opn c2)
        exact K _ H (cUr_X8_hearAll_11 hF)
      · replace H := H.2 a10 c2
        replace hF := hF.trans (q_ops c2)
        refine cS_X8_hear H (fun M_11 H u => ?_)
        replace hF := hF.trans (q_ste u.symm)
        intro x_12 e_x_12
        replace H := H x_12 e_x_12
        replace hF := hF.trans (q_ste e_x_12)
        replace hF := cUl_X8_hearAll_11 hF
        exact ih H (fun M1 q u => K M1 q (hF.trans u))
set_option maxRecDepth 100000 in
noncomputable def cF_X8_hearAll (a : Nat) (M : z_Mem) : z_Mem := (q_st (Option.getD (z_fr M 1024 a) 0) (fun (a14 : Nat) => (q_st (Option.getD (z_fr M 642 a14) 0) (fun (a16 : Nat) => (q_st (z_fi M 1281 a16) (fun (x_18 : Int32) => (cF_X8_hearAll_11 a x_18 M)))))))
set_option maxRecDepth 100000 in
theorem cE_X8_hearAll (a : Nat) (M : z_Mem) : cF_X8_hearAll a M = (q_st (Option.getD (z_fr M 1024 a) 0) (fun (a14 : Nat) => (q_st (Option.getD (z_fr M 642 a14) 0) (fun (a16 : Nat) => (q_st (z_fi M 1281 a16) (fun (x_18 : Int32) => (cF_X8_hearAll_11 a x_18 M))))))) := rfl
set_option maxRecDepth 100000 in
set_option maxHeartbeats 4000000 in
theorem cS_X8_hearAll {Q Post : z_Mem → Prop} {a : Nat} {M : z_Mem} (H : P_X8_hearAll a M Q) (K : ∀ M1, Q M1 → cF_X8_hearAll a M = M1 → Post M1) : P_X8_hearAll a M Post := by
  have hF := cE_X8_hearAll a M
  unfold P_X8_hearAll at H ⊢
  obtain ⟨a14, e_a14, H⟩ := H
  refine z_nn_of e_a14 ?_
  replace hF := hF.trans (q_ste (q_gd e_a14))
  obtain ⟨a16, e_a16, H⟩ := H
  refine z_nn_of e_a16 ?_
  replace hF := hF.trans (q_ste (q_gd e_a16))
  intro x_18 e_x_18
  replace H := H x_18 e_x_18
  replace hF := hF.trans (q_ste e_x_18)
  obtain ⟨m, H⟩ := H
  refine ⟨m, ?_⟩
  exact cS_X8_hearAll_11 m H (fun M1 q u => K M1 q (hF.trans u))
set_option maxRecDepth 100000 in
noncomputable def cF_X8_acknowledgeInTime (a : Nat) (M : z_Mem) : z_Mem := (q_st (Option.getD (z_fr M 1024 a) 0) (fun (a2 : Nat) => (if ((z_fi M 645 a2) = (z_fi M 1037 a)) then (q_st (cF_X8_acknowledge a M) (fun (M_6 : z_Mem) => M_6)) else (q_st (Option.getD (z_fr M 1024 a) 0) (fun (a8 : Nat) => (if (((z_fi M 645 a8) - (((z_fi M 645 a8) / 20) * 20)) = 0) then (q_st (cF_X8_acknowledge a M) (fun (M_11 : z_Mem) => M_11)) else M))))))
set_option maxRecDepth 100000 in
theorem cE_X8_acknowledgeInTime (a : Nat) (M : z_Mem) : cF_X8_acknowledgeInTime a M = (q_st (Option.getD (z_fr M 1024 a) 0) (fun (a2 : Nat) => (if ((z_fi M 645 a2) = (z_fi M 1037 a)) then (q_st (cF_X8_acknowledge a M) (fun (M_6 : z_Mem) => M_6)) else (q_st (Option.getD (z_fr M 1024 a) 0) (fun (a8 : Nat) => (if (((z_fi M 645 a8) - (((z_fi M 645 a8) / 20) * 20)) = 0) then (q_st (cF_X8_acknowledge a M) (fun (M_11 : z_Mem) => M_11)) else M)))))) := rfl
set_option maxRecDepth 100000 in
set_option maxHeartbeats 4000000 in
theorem cS_X8_acknowledgeInTime {Q Post : z_Mem → Prop} {a : Nat} {M : z_Mem} (H : P_X8_acknowledgeInTime a M Q) (K : ∀ M1, Q M1 → cF_X8_acknowledgeInTime a M = M1 → Post M1) : P_X8_acknowledgeInTime a M Post := by
  have hF := cE_X8_acknowledgeInTime a M
  unfold P_X8_acknowledgeInTime at H ⊢
  obtain ⟨a2, e_a2, H⟩ := H
  refine z_nn_of e_a2 ?_
  replace hF := hF.trans (q_ste (q_gd e_a2))
  refine And.intro (fun c1 => ?_) (fun c1 => ?_)
  · replace H := H.1 c1
    replace hF := hF.trans (if_pos c1)
    refine cS_X8_acknowledge H (fun M_6 H u => ?_)
    replace hF := hF.trans (q_ste u.symm)
    exact K _ H hF
  · replace H := H.2 c1
    replace hF := hF.trans (if_neg c1)
    obtain ⟨a8, e_a8, H⟩ := H
    refine z_nn_of e_a8 ?_
    replace hF := hF.trans (q_ste (q_gd e_a8))
    refine And.intro (fun c2 => ?_) (fun c2 => ?_)
    · replace H := H.1 c2
      replace hF := hF.trans (if_pos c2)
      refine cS_X8_acknowledge H (fun M_11 H u => ?_)
      replace hF := hF.trans (q_ste u.symm)
      exact K _ H hF
    · replace H := H.2 c2
      replace hF := hF.trans (if_neg c2)
      exact K _ H hF
set_option maxRecDepth 100000 in
noncomputable def cF_X11_setCookies (a : Nat) (p1 : Int32) (M : z_Mem) : (Int32 × z_Mem) := (q_st (Option.getD (z_fr M 1410 a) 0) (fun (a2 : Nat) => (q_st (z_fi M 1027 a2) (fun (x_4 : Int32) => (q_st (Option.getD (z_fr M 1410 a) 0) (fun (a6 : Nat) => (q_st (z_sfi M 1027 a6 p1) (fun (M_7 : z_Mem) => (x_4, M_7)))))))))
set_option maxRecDepth 100000 in
theorem cE_X11_setCookies (a : Nat) (p1 : Int32) (M : z_Mem) : cF_X11_setCookies a p1 M = (q_st (Option.getD (z_fr M 1410 a) 0) (fun (a2 : Nat) => (q_st (z_fi M 1027 a2) (fun (x_4 : Int32) => (q_st (Option.getD (z_fr M 1410 a) 0) (fun (a6 : Nat) => (q_st (z_sfi M 1027 a6 p1) (fun (M_7 : z_Mem) => (x_4, M_7))))))))) := rfl
set_option maxRecDepth 100000 in
set_option maxHeartbeats 4000000 in
theorem cS_X11_setCookies {Q Post : Int32 → z_Mem → Prop} {a : Nat} {p1 : Int32} {M : z_Mem} (H : P_X11_setCookies a p1 M Q) (K : ∀ x M1, Q x M1 → cF_X11_setCookies a p1 M = (x, M1) → Post x M1) : P_X11_setCookies a p1 M Post := by
  have hF := cE_X11_setCookies a p1 M
  unfold P_X11_setCookies at H ⊢
  obtain ⟨a2, e_a2, H⟩ := H
  refine z_nn_of e_a2 ?_
  replace hF := hF.trans (q_ste (q_gd e_a2))
  intro x_4 e_x_4
  replace H := H x_4 e_x_4
  replace hF := hF.trans (q_ste e_x_4)
  obtain ⟨a6, e_a6, H⟩ := H
  refine z_nn_of e_a6 ?_
  replace hF := hF.trans (q_ste (q_gd e_a6))
  intro M_7 e_M_7
  replace H := H M_7 e_M_7
  replace hF := hF.trans (q_ste e_M_7)
  exact K _ _ H hF
set_option maxRecDepth 100000 in
noncomputable def cF_X11_loseState (a : Nat) (M : z_Mem) : z_Mem := (q_st (Option.getD (z_fr M 1410 a) 0) (fun (a3 : Nat) => (q_st (cF_X8_forget a3 M) (fun (M_2 : z_Mem) => M_2))))
set_option maxRecDepth 100000 in
theorem cE_X11_loseState (a : Nat) (M : z_Mem) : cF_X11_loseState a M = (q_st (Option.getD (z_fr M 1410 a) 0) (fun (a3 : Nat) => (q_st (cF_X8_forget a3 M) (fun (M_2 : z_Mem) => M_2)))) := rfl
set_option maxRecDepth 100000 in
set_option maxHeartbeats 4000000 in
theorem cS_X11_loseState {Q Post : z_Mem → Prop} {a : Nat} {M : z_Mem} (H : P_X11_loseState a M Q) (K : ∀ M1, Q M1 → cF_X11_loseState a M = M1 → Post M1) : P_X11_loseState a M Post := by
  have hF := cE_X11_loseState a M
  unfold P_X11_loseState at H ⊢
  obtain ⟨a3, e_a3, H⟩ := H
  refine z_nn_of e_a3 ?_
  replace hF := hF.trans (q_ste (q_gd e_a3))
  refine cS_X8_forget H (fun M_2 H u => ?_)
  replace hF := hF.trans (q_ste u.symm)
  exact K _ H hF
set_option maxRecDepth 100000 in
noncomputable def cF_X11_now (a : Nat) (M : z_Mem) : (Int32 × z_Mem) := (q_st (Option.getD (z_fr M 1408 a) 0) (fun (a2 : Nat) => ((z_fi M 645 a2), M)))
set_option maxRecDepth 100000 in
theorem cE_X11_now (a : Nat) (M : z_Mem) : cF_X11_now a M = (q_st (Option.getD (z_fr M 1408 a) 0) (fun (a2 : Nat) => ((z_fi M 645 a2), M))) := rfl
set_option maxRecDepth 100000 in
set_option maxHeartbeats 4000000 in
theorem cS_X11_now {Q Post : Int32 → z_Mem → Prop} {a : Nat} {M : z_Mem} (H : P_X11_now a M Q) (K : ∀ x M1, Q x M1 → cF_X11_now a M = (x, M1) → Post x M1) : P_X11_now a M Post := by
  have hF := cE_X11_now a M
  unfold P_X11_now at H ⊢
  obtain ⟨a2, e_a2, H⟩ := H
  refine z_nn_of e_a2 ?_
  replace hF := hF.trans (q_ste (q_gd e_a2))
  exact K _ _ H hF
set_option maxRecDepth 100000 in
noncomputable def cF_X11_asNumber (p1 : Int32) (M : z_Mem) : (Int32 × z_Mem) := (if (p1 = 0) then (0, M) else (1, M))
set_option maxRecDepth 100000 in
theorem cE_X11_asNumber (p1 : Int32) (M : z_Mem) : cF_X11_asNumber p1 M = (if (p1 = 0) then (0, M) else (1, M)) := rfl
set_option maxRecDepth 100000 in
set_option maxHeartbeats 4000000 in
theorem cS_X11_asNumber {Q Post : Int32 → z_Mem → Prop} {p1 : Int32} {M : z_Mem} (H : P_X11_asNumber p1 M Q) (K : ∀ x M1, Q x M1 → cF_X11_asNumber p1 M = (x, M1) → Post x M1) : P_X11_asNumber p1 M Post := by
  have hF := cE_X11_asNumber p1 M
  unfold P_X11_asNumber at H ⊢
  refine And.intro (fun c1 => ?_) (fun c1 => ?_)
  · replace H := H.1 c1
    replace hF := hF.trans (if_pos c1)
    exact K _ _ H hF
  · replace H := H.2 c1
    replace hF := hF.trans (if_neg c1)
    exact K _ _ H hF
set_option maxRecDepth 100000 in
noncomputable def cF_X11_credit (a : Nat) (M : z_Mem) : (Int32 × z_Mem) := (q_st (Option.getD (z_fr M 1411 a) 0) (fun (a2 : Nat) => ((z_fi M 144 a2), M)))
set_option maxRecDepth 100000 in
theorem cE_X11_credit (a : Nat) (M : z_Mem) : cF_X11_credit a M = (q_st (Option.getD (z_fr M 1411 a) 0) (fun (a2 : Nat) => ((z_fi M 144 a2), M))) := rfl
set_option maxRecDepth 100000 in
set_option maxHeartbeats 4000000 in
theorem cS_X11_credit {Q Post : Int32 → z_Mem → Prop} {a : Nat} {M : z_Mem} (H : P_X11_credit a M Q) (K : ∀ x M1, Q x M1 → cF_X11_credit a M = (x, M1) → Post x M1) : P_X11_credit a M Post := by
  have hF := cE_X11_credit a M
  unfold P_X11_credit at H ⊢
  obtain ⟨a2, e_a2, H⟩ := H
  refine z_nn_of e_a2 ?_
  replace hF := hF.trans (q_ste (q_gd e_a2))
  exact K _ _ H hF
set_option maxRecDepth 100000 in
noncomputable def cF_X11_packets (a : Nat) (M : z_Mem) : (Int32 × z_Mem) := (q_st (Option.getD (z_fr M 1411 a) 0) (fun (a2 : Nat) => ((z_fi M 133 a2), M)))
set_option maxRecDepth 100000 in
theorem cE_X11_packets (a : Nat) (M : z_Mem) : cF_X11_packets a M = (q_st (Option.getD (z_fr M 1411 a) 0) (fun (a2 : Nat) => ((z_fi M 133 a2), M))) := rfl
set_option maxRecDepth 100000 in
set_option maxHeartbeats 4000000 in
theorem cS_X11_packets {Q Post : Int32 → z_Mem → Prop} {a : Nat} {M : z_Mem} (H : P_X11_packets a M Q) (K : ∀ x M1, Q x M1 → cF_X11_packets a M = (x, M1) → Post x M1) : P_X11_packets a M Post := by
  have hF := cE_X11_packets a M
  unfold P_X11_packets at H ⊢
  obtain ⟨a2, e_a2, H⟩ := H
  refine z_nn_of e_a2 ?_
  replace hF := hF.trans (q_ste (q_gd e_a2))
  exact K _ _ H hF
