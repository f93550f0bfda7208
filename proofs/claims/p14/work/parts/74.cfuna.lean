/-! ===== THE CLASS as functions on memories, 1 ===== -/
def q_op {A : Type} (r : Option Nat) (x : A) (f : Nat → A) : A := match r with | none => x | some a => f a
theorem q_opn {A : Type} {r : Option Nat} {x : A} {f : Nat → A} (h : r = none) : q_op r x f = x := by rw [h]; rfl
theorem q_ops {A : Type} {r : Option Nat} {x : A} {f : Nat → A} {a : Nat} (h : r = some a) : q_op r x f = f a := by rw [h]; rfl
theorem q_gd {r : Option Nat} {a : Nat} (h : r = some a) : a = r.getD 0 := by rw [h]; rfl
set_option maxRecDepth 100000 in
noncomputable def cF_X0_init (a : Nat) (M : z_Mem) : z_Mem := (q_st (z_nwa M 20 4) (fun (M_2 : z_Mem) => (q_st (z_sfr M_2 0 a (some (z_sz M))) (fun (M_3 : z_Mem) => (q_st (z_nwa M_3 20 4) (fun (M_5 : z_Mem) => (q_st (z_sfr M_5 1 a (some (z_sz M_3))) (fun (M_6 : z_Mem) => (q_st (z_nwa M_6 20 4) (fun (M_8 : z_Mem) => (q_st (z_sfr M_8 2 a (some (z_sz M_6))) (fun (M_9 : z_Mem) => M_9))))))))))))
set_option maxRecDepth 100000 in
theorem cE_X0_init (a : Nat) (M : z_Mem) : cF_X0_init a M = (q_st (z_nwa M 20 4) (fun (M_2 : z_Mem) => (q_st (z_sfr M_2 0 a (some (z_sz M))) (fun (M_3 : z_Mem) => (q_st (z_nwa M_3 20 4) (fun (M_5 : z_Mem) => (q_st (z_sfr M_5 1 a (some (z_sz M_3))) (fun (M_6 : z_Mem) => (q_st (z_nwa M_6 20 4) (fun (M_8 : z_Mem) => (q_st (z_sfr M_8 2 a (some (z_sz M_6))) (fun (M_9 : z_Mem) => M_9)))))))))))) := rfl
set_option maxRecDepth 100000 in
set_option maxHeartbeats 4000000 in
theorem cS_X0_init {Q Post : z_Mem → Prop} {a : Nat} {M : z_Mem} (H : P_X0_init a M Q) (K : ∀ M1, Q M1 → cF_X0_init a M = M1 → Post M1) : P_X0_init a M Post := by
  have hF := cE_X0_init a M
  unfold P_X0_init at H ⊢
  refine And.intro H.1 ?_
  replace H := H.2
  intro M_2 e_M_2
  replace H := H M_2 e_M_2
  replace hF := hF.trans (q_ste e_M_2)
  intro M_3 e_M_3
  replace H := H M_3 e_M_3
  replace hF := hF.trans (q_ste e_M_3)
  refine And.intro H.1 ?_
  replace H := H.2
  intro M_5 e_M_5
  replace H := H M_5 e_M_5
  replace hF := hF.trans (q_ste e_M_5)
  intro M_6 e_M_6
  replace H := H M_6 e_M_6
  replace hF := hF.trans (q_ste e_M_6)
  refine And.intro H.1 ?_
  replace H := H.2
  intro M_8 e_M_8
  replace H := H M_8 e_M_8
  replace hF := hF.trans (q_ste e_M_8)
  intro M_9 e_M_9
  replace H := H M_9 e_M_9
  replace hF := hF.trans (q_ste e_M_9)
  exact K _ H hF
set_option maxRecDepth 100000 in
noncomputable def cF_X0_addRange (a : Nat) (p1 : Int32) (p2 : Int32) (M : z_Mem) : z_Mem := (if (4 ≤ (z_fi M 3 a)) then M else (q_st (Option.getD (z_fr M 0 a) 0) (fun (a5 : Nat) => (q_st (z_sai M a5 ((z_fi M 3 a) : Int32).toNatClampNeg p1) (fun (M_7 : z_Mem) => (q_st (Option.getD (z_fr M_7 1 a) 0) (fun (a10 : Nat) => (q_st (z_sai M_7 a10 ((z_fi M_7 3 a) : Int32).toNatClampNeg p2) (fun (M_12 : z_Mem) => (q_st (z_sfi M_12 3 a ((z_fi M_12 3 a) + 1)) (fun (M_14 : z_Mem) => M_14)))))))))))
set_option maxRecDepth 100000 in
theorem cE_X0_addRange (a : Nat) (p1 : Int32) (p2 : Int32) (M : z_Mem) : cF_X0_addRange a p1 p2 M = (if (4 ≤ (z_fi M 3 a)) then M else (q_st (Option.getD (z_fr M 0 a) 0) (fun (a5 : Nat) => (q_st (z_sai M a5 ((z_fi M 3 a) : Int32).toNatClampNeg p1) (fun (M_7 : z_Mem) => (q_st (Option.getD (z_fr M_7 1 a) 0) (fun (a10 : Nat) => (q_st (z_sai M_7 a10 ((z_fi M_7 3 a) : Int32).toNatClampNeg p2) (fun (M_12 : z_Mem) => (q_st (z_sfi M_12 3 a ((z_fi M_12 3 a) + 1)) (fun (M_14 : z_Mem) => M_14))))))))))) := rfl
set_option maxRecDepth 100000 in
set_option maxHeartbeats 4000000 in
theorem cS_X0_addRange {Q Post : z_Mem → Prop} {a : Nat} {p1 : Int32} {p2 : Int32} {M : z_Mem} (H : P_X0_addRange a p1 p2 M Q) (K : ∀ M1, Q M1 → cF_X0_addRange a p1 p2 M = M1 → Post M1) : P_X0_addRange a p1 p2 M Post := by
  have hF := cE_X0_addRange a p1 p2 M
  unfold P_X0_addRange at H ⊢
  refine And.intro (fun c1 => ?_) (fun c1 => ?_)
  · replace H := H.1 c1
    replace hF := hF.trans (if_pos c1)
    exact K _ H hF
  · replace H := H.2 c1
    replace hF := hF.trans (if_neg c1)
    obtain ⟨a5, e_a5, H⟩ := H
    refine z_nn_of e_a5 ?_
    replace hF := hF.trans (q_ste (q_gd e_a5))
    refine And.intro H.1 ?_
    replace H := H.2
    intro M_7 e_M_7
    replace H := H M_7 e_M_7
    replace hF := hF.trans (q_ste e_M_7)
    obtain ⟨a10, e_a10, H⟩ := H
    refine z_nn_of e_a10 ?_
    replace hF := hF.trans (q_ste (q_gd e_a10))
    refine And.intro H.1 ?_
    replace H := H.2
    intro M_12 e_M_12
    replace H := H M_12 e_M_12
    replace hF := hF.trans (q_ste e_M_12)
    intro M_14 e_M_14
    replace H := H M_14 e_M_14
    replace hF := hF.trans (q_ste e_M_14)
    exact K _ H hF
set_option maxRecDepth 100000 in
noncomputable def cF_X0_greatest (a : Nat) (M : z_Mem) : (Int32 × z_Mem) := (if ((z_fi M 3 a) ≤ 0) then ((-1), M) else (q_st (Option.getD (z_fr M 1 a) 0) (fun (a4 : Nat) => ((z_ai M a4 (0 : Int32).toNatClampNeg), M))))
set_option maxRecDepth 100000 in
theorem cE_X0_greatest (a : Nat) (M : z_Mem) : cF_X0_greatest a M = (if ((z_fi M 3 a) ≤ 0) then ((-1), M) else (q_st (Option.getD (z_fr M 1 a) 0) (fun (a4 : Nat) => ((z_ai M a4 (0 : Int32).toNatClampNeg), M)))) := rfl
set_option maxRecDepth 100000 in
set_option maxHeartbeats 4000000 in
theorem cS_X0_greatest {Q Post : Int32 → z_Mem → Prop} {a : Nat} {M : z_Mem} (H : P_X0_greatest a M Q) (K : ∀ x M1, Q x M1 → cF_X0_greatest a M = (x, M1) → Post x M1) : P_X0_greatest a M Post := by
  have hF := cE_X0_greatest a M
  unfold P_X0_greatest at H ⊢
  refine And.intro (fun c1 => ?_) (fun c1 => ?_)
  · replace H := H.1 c1
    replace hF := hF.trans (if_pos c1)
    exact K _ _ H hF
  · replace H := H.2 c1
    replace hF := hF.trans (if_neg c1)
    obtain ⟨a4, e_a4, H⟩ := H
    refine z_nn_of e_a4 ?_
    replace hF := hF.trans (q_ste (q_gd e_a4))
    refine And.intro H.1 ?_
    replace H := H.2
    exact K _ _ H hF
set_option maxRecDepth 100000 in
noncomputable def cF_X1_routeOf (a : Nat) (p1 : Int32) (M : z_Mem) : (Option Nat × z_Mem) := (if (p1 = 0) then ((z_fr M 130 a), M) else ((z_fr M 131 a), M))
set_option maxRecDepth 100000 in
theorem cE_X1_routeOf (a : Nat) (p1 : Int32) (M : z_Mem) : cF_X1_routeOf a p1 M = (if (p1 = 0) then ((z_fr M 130 a), M) else ((z_fr M 131 a), M)) := rfl
set_option maxRecDepth 100000 in
set_option maxHeartbeats 4000000 in
theorem cS_X1_routeOf {Q Post : Option Nat → z_Mem → Prop} {a : Nat} {p1 : Int32} {M : z_Mem} (H : P_X1_routeOf a p1 M Q) (K : ∀ x M1, Q x M1 → cF_X1_routeOf a p1 M = (x, M1) → Post x M1) : P_X1_routeOf a p1 M Post := by
  have hF := cE_X1_routeOf a p1 M
  unfold P_X1_routeOf at H ⊢
  refine And.intro (fun c1 => ?_) (fun c1 => ?_)
  · replace H := H.1 c1
    replace hF := hF.trans (if_pos c1)
    exact K _ _ H hF
  · replace H := H.2 c1
    replace hF := hF.trans (if_neg c1)
    exact K _ _ H hF
set_option maxRecDepth 100000 in
noncomputable def cF_X1_packetAt (a : Nat) (p1 : Int32) (M : z_Mem) : (Option Nat × z_Mem) := (if (p1 < 0) then (none, M) else (if ((z_fi M 133 a) ≤ p1) then (none, M) else (if (400 ≤ p1) then (none, M) else (q_st (Option.getD (z_fr M 132 a) 0) (fun (a6 : Nat) => ((z_ar M a6 (p1 : Int32).toNatClampNeg), M))))))
set_option maxRecDepth 100000 in
theorem cE_X1_packetAt (a : Nat) (p1 : Int32) (M : z_Mem) : cF_X1_packetAt a p1 M = (if (p1 < 0) then (none, M) else (if ((z_fi M 133 a) ≤ p1) then (none, M) else (if (400 ≤ p1) then (none, M) else (q_st (Option.getD (z_fr M 132 a) 0) (fun (a6 : Nat) => ((z_ar M a6 (p1 : Int32).toNatClampNeg), M)))))) := rfl
set_option maxRecDepth 100000 in
set_option maxHeartbeats 4000000 in
theorem cS_X1_packetAt {Q Post : Option Nat → z_Mem → Prop} {a : Nat} {p1 : Int32} {M : z_Mem} (H : P_X1_packetAt a p1 M Q) (K : ∀ x M1, Q x M1 → cF_X1_packetAt a p1 M = (x, M1) → Post x M1) : P_X1_packetAt a p1 M Post := by
  have hF := cE_X1_packetAt a p1 M
  unfold P_X1_packetAt at H ⊢
  refine And.intro (fun c1 => ?_) (fun c1 => ?_)
  · replace H := H.1 c1
    replace hF := hF.trans (if_pos c1)
    exact K _ _ H hF
  · replace H := H.2 c1
    replace hF := hF.trans (if_neg c1)
    refine And.intro (fun c2 => ?_) (fun c2 => ?_)
    · replace H := H.1 c2
      replace hF := hF.trans (if_pos c2)
      exact K _ _ H hF
    · replace H := H.2 c2
      replace hF := hF.trans (if_neg c2)
      refine And.intro (fun c3 => ?_) (fun c3 => ?_)
      · replace H := H.1 c3
        replace hF := hF.trans (if_pos c3)
        exact K _ _ H hF
      · replace H := H.2 c3
        replace hF := hF.trans (if_neg c3)
        obtain ⟨a6, e_a6, H⟩ := H
        refine z_nn_of e_a6 ?_
        replace hF := hF.trans (q_ste (q_gd e_a6))
        refine And.intro H.1 ?_
        replace H := H.2
        exact K _ _ H hF
set_option maxRecDepth 100000 in
noncomputable def cF_X4_init (a : Nat) (p1 : Int32) (M : z_Mem) : z_Mem := (q_st (z_sfi M 517 a (-1)) (fun (M_1 : z_Mem) => (q_st (z_sfi M_1 512 a p1) (fun (M_2 : z_Mem) => M_2))))
set_option maxRecDepth 100000 in
theorem cE_X4_init (a : Nat) (p1 : Int32) (M : z_Mem) : cF_X4_init a p1 M = (q_st (z_sfi M 517 a (-1)) (fun (M_1 : z_Mem) => (q_st (z_sfi M_1 512 a p1) (fun (M_2 : z_Mem) => M_2)))) := rfl
set_option maxRecDepth 100000 in
set_option maxHeartbeats 4000000 in
theorem cS_X4_init {Q Post : z_Mem → Prop} {a : Nat} {p1 : Int32} {M : z_Mem} (H : P_X4_init a p1 M Q) (K : ∀ M1, Q M1 → cF_X4_init a p1 M = M1 → Post M1) : P_X4_init a p1 M Post := by
  have hF := cE_X4_init a p1 M
  unfold P_X4_init at H ⊢
  intro M_1 e_M_1
  replace H := H M_1 e_M_1
  replace hF := hF.trans (q_ste e_M_1)
  intro M_2 e_M_2
  replace H := H M_2 e_M_2
  replace hF := hF.trans (q_ste e_M_2)
  exact K _ H hF
set_option maxRecDepth 100000 in
noncomputable def cF_X5_laneOf (a : Nat) (p1 : Int32) (M : z_Mem) : (Option Nat × z_Mem) := (if (p1 = 0) then ((z_fr M 640 a), M) else ((z_fr M 641 a), M))
set_option maxRecDepth 100000 in
theorem cE_X5_laneOf (a : Nat) (p1 : Int32) (M : z_Mem) : cF_X5_laneOf a p1 M = (if (p1 = 0) then ((z_fr M 640 a), M) else ((z_fr M 641 a), M)) := rfl
set_option maxRecDepth 100000 in
set_option maxHeartbeats 4000000 in
theorem cS_X5_laneOf {Q Post : Option Nat → z_Mem → Prop} {a : Nat} {p1 : Int32} {M : z_Mem} (H : P_X5_laneOf a p1 M Q) (K : ∀ x M1, Q x M1 → cF_X5_laneOf a p1 M = (x, M1) → Post x M1) : P_X5_laneOf a p1 M Post := by
  have hF := cE_X5_laneOf a p1 M
  unfold P_X5_laneOf at H ⊢
  refine And.intro (fun c1 => ?_) (fun c1 => ?_)
  · replace H := H.1 c1
    replace hF := hF.trans (if_pos c1)
    exact K _ _ H hF
  · replace H := H.2 c1
    replace hF := hF.trans (if_neg c1)
    exact K _ _ H hF
set_option maxRecDepth 100000 in
noncomputable def cF_X3_hasRoom (a : Nat) (M : z_Mem) : (Int32 × z_Mem) := (if ((z_fi M 386 a) ≤ (z_fi M 395 a)) then (0, M) else (if (30 ≤ (z_fi M 395 a)) then (0, M) else (1, M)))
set_option maxRecDepth 100000 in
theorem cE_X3_hasRoom (a : Nat) (M : z_Mem) : cF_X3_hasRoom a M = (if ((z_fi M 386 a) ≤ (z_fi M 395 a)) then (0, M) else (if (30 ≤ (z_fi M 395 a)) then (0, M) else (1, M))) := rfl
set_option maxRecDepth 100000 in
set_option maxHeartbeats 4000000 in
theorem cS_X3_hasRoom {Q Post : Int32 → z_Mem → Prop} {a : Nat} {M : z_Mem} (H : P_X3_hasRoom a M Q) (K : ∀ x M1, Q x M1 → cF_X3_hasRoom a M = (x, M1) → Post x M1) : P_X3_hasRoom a M Post := by
  have hF := cE_X3_hasRoom a M
  unfold P_X3_hasRoom at H ⊢
  refine And.intro (fun c1 => ?_) (fun c1 => ?_)
  · replace H := H.1 c1
    replace hF := hF.trans (if_pos c1)
    exact K _ _ H hF
  · replace H := H.2 c1
    replace hF := hF.trans (if_neg c1)
    refine And.intro (fun c2 => ?_) (fun c2 => ?_)
    · replace H := H.1 c2
      replace hF := hF.trans (if_pos c2)
      exact K _ _ H hF
    · replace H := H.2 c2
      replace hF := hF.trans (if_neg c2)
      exact K _ _ H hF
set_option maxRecDepth 100000 in
noncomputable def cF_X3_letsToServer (a : Nat) (M : z_Mem) : (Int32 × z_Mem) := (if ((z_fi M 388 a) = 0) then (0, M) else (if ((z_fi M 389 a) ≤ 0) then (q_st2 (cF_X3_hasRoom a M) (fun (x_5 : Int32) (M_5 : z_Mem) => (x_5, M_5))) else (q_st (z_sfi M 389 a ((z_fi M 389 a) - 1)) (fun (M_7 : z_Mem) => (0, M_7)))))
set_option maxRecDepth 100000 in
theorem cE_X3_letsToServer (a : Nat) (M : z_Mem) : cF_X3_letsToServer a M = (if ((z_fi M 388 a) = 0) then (0, M) else (if ((z_fi M 389 a) ≤ 0) then (q_st2 (cF_X3_hasRoom a M) (fun (x_5 : Int32) (M_5 : z_Mem) => (x_5, M_5))) else (q_st (z_sfi M 389 a ((z_fi M 389 a) - 1)) (fun (M_7 : z_Mem) => (0, M_7))))) := rfl
set_option maxRecDepth 100000 in
set_option maxHeartbeats 4000000 in
theorem cS_X3_letsToServer {Q Post : Int32 → z_Mem → Prop} {a : Nat} {M : z_Mem} (H : P_X3_letsToServer a M Q) (K : ∀ x M1, Q x M1 → cF_X3_letsToServer a M = (x, M1) → Post x M1) : P_X3_letsToServer a M Post := by
  have hF := cE_X3_letsToServer a M
  unfold P_X3_letsToServer at H ⊢
  refine And.intro (fun c1 => ?_) (fun c1 => ?_)
  · replace H := H.1 c1
    replace hF := hF.trans (if_pos c1)
    exact K _ _ H hF
  · replace H := H.2 c1
    replace hF := hF.trans (if_neg c1)
    refine And.intro (fun c2 => ?_) (fun c2 => ?_)
    · replace H := H.1 c2
      replace hF := hF.trans (if_pos c2)
      refine cS_X3_hasRoom H (fun x_5 M_5 H u => ?_)
      replace hF := hF.trans (q_ste2 u)
      exact K _ _ H hF
    · replace H := H.2 c2
      replace hF := hF.trans (if_neg c2)
      intro M_7 e_M_7
      replace H := H M_7 e_M_7
      replace hF := hF.trans (q_ste e_M_7)
      exact K _ _ H hF
set_option maxRecDepth 100000 in
noncomputable def cF_X3_append (a : Nat) (p1 : Option Nat) (M : z_Mem) : z_Mem := (if (30 ≤ (z_fi M 395 a)) then M else (q_st (Option.getD (z_fr M 393 a) 0) (fun (a6 : Nat) => (q_st (z_sar M a6 ((((z_fi M 394 a) + (z_fi M 395 a)) - ((((z_fi M 394 a) + (z_fi M 395 a)) / 30) * 30)) : Int32).toNatClampNeg p1) (fun (M_8 : z_Mem) => (q_st (z_sfi M_8 395 a ((z_fi M_8 395 a) + 1)) (fun (M_10 : z_Mem) => M_10)))))))
set_option maxRecDepth 100000 in
theorem cE_X3_append (a : Nat) (p1 : Option Nat) (M : z_Mem) : cF_X3_append a p1 M = (if (30 ≤ (z_fi M 395 a)) then M else (q_st (Option.getD (z_fr M 393 a) 0) (fun (a6 : Nat) => (q_st (z_sar M a6 ((((z_fi M 394 a) + (z_fi M 395 a)) - ((((z_fi M 394 a) + (z_fi M 395 a)) / 30) * 30)) : Int32).toNatClampNeg p1) (fun (M_8 : z_Mem) => (q_st (z_sfi M_8 395 a ((z_fi M_8 395 a) + 1)) (fun (M_10 : z_Mem) => M_10))))))) := rfl
set_option maxRecDepth 100000 in
set_option maxHeartbeats 4000000 in
theorem cS_X3_append {Q Post : z_Mem → Prop} {a : Nat} {p1 : Option Nat} {M : z_Mem} (H : P_X3_append a p1 M Q) (K : ∀ M1, Q M1 → cF_X3_append a p1 M = M1 → Post M1) : P_X3_append a p1 M Post := by
  have hF := cE_X3_append a p1 M
  unfold P_X3_append at H ⊢
  refine And.intro (fun c1 => ?_) (fun c1 => ?_)
  · replace H := H.1 c1
    replace hF := hF.trans (if_pos c1)
    exact K _ H hF
  · replace H := H.2 c1
    replace hF := hF.trans (if_neg c1)
    obtain ⟨a6, e_a6, H⟩ := H
    refine z_nn_of e_a6 ?_
    replace hF := hF.trans (q_ste (q_gd e_a6))
    refine And.intro H.1 ?_
    replace H := H.2
    intro M_8 e_M_8
    replace H := H M_8 e_M_8
    replace hF := hF.trans (q_ste e_M_8)
    intro M_10 e_M_10
    replace H := H M_10 e_M_10
    replace hF := hF.trans (q_ste e_M_10)
    exact K _ H hF
set_option maxRecDepth 100000 in
noncomputable def cF_X5_putToServer_49 (a : Nat) (x2 : Option Nat) (x3 : Option Nat) (x4 : Int32) (t0 : Option Nat) (t1 : Int32) (M : z_Mem) : z_Mem := (q_st (Option.getD t0 0) (fun (a1 : Nat) => (q_st (z_sfi M 777 a1 t1) (fun (M_2 : z_Mem) => (if (x4 = 0) then (q_st (Option.getD x2 0) (fun (a7 : Nat) => (q_st (Option.getD (z_fr M_2 515 a7) 0) (fun (a9 : Nat) => (q_st (z_sfi M_2 779 a9 3) (fun (M_10 : z_Mem) => (if (x4 = 0) then M_10 else (q_st (Option.getD x3 0) (fun (a13 : Nat) => (q_st (cF_X3_append a13 x2 M_10) (fun (M_12 : z_Mem) => M_12))))))))))) else (if (x4 = 0) then M_2 else (q_st (Option.getD x3 0) (fun (a6 : Nat) => (q_st (cF_X3_append a6 x2 M_2) (fun (M_5 : z_Mem) => M_5))))))))))
set_option maxRecDepth 100000 in
theorem cE_X5_putToServer_49 (a : Nat) (x2 : Option Nat) (x3 : Option Nat) (x4 : Int32) (t0 : Option Nat) (t1 : Int32) (M : z_Mem) : cF_X5_putToServer_49 a x2 x3 x4 t0 t1 M = (q_st (Option.getD t0 0) (fun (a1 : Nat) => (q_st (z_sfi M 777 a1 t1) (fun (M_2 : z_Mem) => (if (x4 = 0) then (q_st (Option.getD x2 0) (fun (a7 : Nat) => (q_st (Option.getD (z_fr M_2 515 a7) 0) (fun (a9 : Nat) => (q_st (z_sfi M_2 779 a9 3) (fun (M_10 : z_Mem) => (if (x4 = 0) then M_10 else (q_st (Option.getD x3 0) (fun (a13 : Nat) => (q_st (cF_X3_append a13 x2 M_10) (fun (M_12 : z_Mem) => M_12))))))))))) else (if (x4 = 0) then M_2 else (q_st (Option.getD x3 0) (fun (a6 : Nat) => (q_st (cF_X3_append a6 x2 M_2) (fun (M_5 : z_Mem) => M_5)))))))))) := rfl
set_option maxRecDepth 100000 in
set_option maxHeartbeats 4000000 in
theorem cS_X5_putToServer_49 {Q Post : z_Mem → Prop} {a : Nat} {x2 : Option Nat} {x3 : Option Nat} {x4 : Int32} {t0 : Option Nat} {t1 : Int32} {M : z_Mem} (H : P_X5_putToServer_49 a Q x2 x3 x4 t0 t1 M) (K : ∀ M1, Q M1 → cF_X5_putToServer_49 a x2 x3 x4 t0 t1 M = M1 → Post M1) : P_X5_putToServer_49 a Post x2 x3 x4 t0 t1 M := by
  have hF := cE_X5_putToServer_49 a x2 x3 x4 t0 t1 M
  unfold P_X5_putToServer_49 at H ⊢
  obtain ⟨a1, e_a1, H⟩ := H
  refine z_nn_of e_a1 ?_
  replace hF := hF.trans (q_ste (q_gd e_a1))
  intro M_2 e_M_2
  replace H := H M_2 e_M_2
  replace hF := hF.trans (q_ste e_M_2)
  refine And.intro (fun c1 => ?_) (fun c1 => ?_)
  · replace H := H.1 c1
    replace hF := hF.trans (if_pos c1)
    obtain ⟨a7, e_a7, H⟩ := H
    refine z_nn_of e_a7 ?_
    replace hF := hF.trans (q_ste (q_gd e_a7))
    obtain ⟨a9, e_a9, H⟩ := H
    refine z_nn_of e_a9 ?_
    replace hF := hF.trans (q_ste (q_gd e_a9))
    intro M_10 e_M_10
    replace H := H M_10 e_M_10
    replace hF := hF.trans (q_ste e_M_10)
    refine And.intro (fun c2 => ?_) (fun c2 => ?_)
    · replace H := H.1 c2
      replace hF := hF.trans (if_pos c2)
      exact K _ H hF
    · replace H := H.2 c2
      replace hF := hF.trans (if_neg c2)
      obtain ⟨a13, e_a13, H⟩ := H
      refine z_nn_of e_a13 ?_
      replace hF := hF.trans (q_ste (q_gd e_a13))
      refine cS_X3_append H (fun M_12 H u => ?_)
      replace hF := hF.trans (q_ste u.symm)
      exact K _ H hF
  · replace H := H.2 c1
    replace hF := hF.trans (if_neg c1)
    refine And.intro (fun c3 => ?_) (fun c3 => ?_)
    · replace H := H.1 c3
      replace hF := hF.trans (if_pos c3)
      exact K _ H hF
    · replace H := H.2 c3
      replace hF := hF.trans (if_neg c3)
      obtain ⟨a6, e_a6, H⟩ := H
      refine z_nn_of e_a6 ?_
      replace hF := hF.trans (q_ste (q_gd e_a6))
      refine cS_X3_append H (fun M_5 H u => ?_)
      replace hF := hF.trans (q_ste u.symm)
      exact K _ H hF
set_option maxRecDepth 100000 in
noncomputable def cF_X5_putToServer_48 (a : Nat) (x2 : Option Nat) (x3 : Option Nat) (x4 : Int32) (t0 : Option Nat) (M : z_Mem) : z_Mem := (cF_X5_putToServer_49 a x2 x3 x4 t0 0 M)
set_option maxRecDepth 100000 in
theorem cE_X5_putToServer_48 (a : Nat) (x2 : Option Nat) (x3 : Option Nat) (x4 : Int32) (t0 : Option Nat) (M : z_Mem) : cF_X5_putToServer_48 a x2 x3 x4 t0 M = (cF_X5_putToServer_49 a x2 x3 x4 t0 0 M) := rfl
set_option maxRecDepth 100000 in
set_option maxHeartbeats 4000000 in
theorem cS_X5_putToServer_48 {Q Post : z_Mem → Prop} {a : Nat} {x2 : Option Nat} {x3 : Option Nat} {x4 : Int32} {t0 : Option Nat} {M : z_Mem} (H : P_X5_putToServer_48 a Q x2 x3 x4 t0 M) (K : ∀ M1, Q M1 → cF_X5_putToServer_48 a x2 x3 x4 t0 M = M1 → Post M1) : P_X5_putToServer_48 a Post x2 x3 x4 t0 M := by
  have hF := cE_X5_putToServer_48 a x2 x3 x4 t0 M
  unfold P_X5_putToServer_48 at H ⊢
  exact cS_X5_putToServer_49 H (fun M1 q u => K M1 q (hF.trans u))
set_option maxRecDepth 100000 in
noncomputable def cF_X5_putToServer (a : Nat) (p1 : Int32) (p2 : Option Nat) (M : z_Mem) : z_Mem := (q_st2 (cF_X5_laneOf a p1 M) (fun (x_14 : Option Nat) (M_14 : z_Mem) => (q_st (Option.getD p2 0) (fun (a15 : Nat) => (q_st (z_sfi M_14 513 a15 p1) (fun (M_16 : z_Mem) => (q_st (Option.getD x_14 0) (fun (a18 : Nat) => (q_st2 (cF_X3_letsToServer a18 M_16) (fun (x_17 : Int32) (M_17 : z_Mem) => (q_op (z_fr M_17 515 a15) (if (x_17 = 0) then M_17 else (q_st (cF_X3_append a18 p2 M_17) (fun (M_22 : z_Mem) => M_22))) (fun a20 => (if (x_17 = 0) then (cF_X5_putToServer_48 a p2 x_14 x_17 (z_fr M_17 515 a15) M_17) else (if ((z_fi M_17 395 a18) < (z_fi M_17 387 a18)) then (cF_X5_putToServer_48 a p2 x_14 x_17 (z_fr M_17 515 a15) M_17) else (cF_X5_putToServer_49 a p2 x_14 x_17 (z_fr M_17 515 a15) 1 M_17)))))))))))))))
set_option maxRecDepth 100000 in
theorem cE_X5_putToServer (a : Nat) (p1 : Int32) (p2 : Option Nat) (M : z_Mem) : cF_X5_putToServer a p1 p2 M = (q_st2 (cF_X5_laneOf a p1 M) (fun (x_14 : Option Nat) (M_14 : z_Mem) => (q_st (Option.getD p2 0) (fun (a15 : Nat) => (q_st (z_sfi M_14 513 a15 p1) (fun (M_16 : z_Mem) => (q_st (Option.getD x_14 0) (fun (a18 : Nat) => (q_st2 (cF_X3_letsToServer a18 M_16) (fun (x_17 : Int32) (M_17 : z_Mem) => (q_op (z_fr M_17 515 a15) (if (x_17 = 0) then M_17 else (q_st (cF_X3_append a18 p2 M_17) (fun (M_22 : z_Mem) => M_22))) (fun a20 => (if (x_17 = 0) then (cF_X5_putToServer_48 a p2 x_14 x_17 (z_fr M_17 515 a15) M_17) else (if ((z_fi M_17 395 a18) < (z_fi M_17 387 a18)) then (cF_X5_putToServer_48 a p2 x_14 x_17 (z_fr M_17 515 a15) M_17) else (cF_X5_putToServer_49 a p2 x_14 x_17 (z_fr M_17 515 a15) 1 M_17))))))))))))))) := rfl
set_option maxRecDepth 100000 in
set_option maxHeartbeats 4000000 in
theorem cS_X5_putToServer {Q Post : z_Mem → Prop} {a : Nat} {p1 : Int32} {p2 : Option Nat} {M : z_Mem} (H : P_X5_putToServer a p1 p2 M Q) (K : ∀ M1, Q M1 → cF_X5_putToServer a p1 p2 M = M1 → Post M1) : P_X5_putToServer a p1 p2 M Post := by
  have hF := cE_X5_putToServer a p1 p2 M
  unfold P_X5_putToServer at H ⊢
  refine cS_X5_laneOf H (fun x_14 M_14 H u => ?_)
  replace hF := hF.trans (q_ste2 u)
  obtain ⟨a15, e_a15, H⟩ := H
  refine z_nn_of e_a15 ?_
  replace hF := hF.trans (q_ste (q_gd e_a15))
  intro M_16 e_M_16
  replace H := H M_16 e_M_16
  replace hF := hF.trans (q_ste e_M_16)
  obtain ⟨a18, e_a18, H⟩ := H
  refine z_nn_of e_a18 ?_
  replace hF := hF.trans (q_ste (q_gd e_a18))
  refine cS_X3_letsToServer H (fun x_17 M_17 H u => ?_)
  replace hF := hF.trans (q_ste2 u)
  refine And.intro (fun c1 => ?_) (fun a20 c1 => ?_)
  · replace H := H.1 c1
    replace hF := hF.trans (q_opn c1)
    refine And.intro (fun c2 => ?_) (fun c2 => ?_)
    · replace H := H.1 c2
      replace hF := hF.trans (if_pos c2)
      exact K _ H hF
    · replace H := H.2 c2
      replace hF := hF.trans (if_neg c2)
      refine cS_X3_append H (fun M_22 H u => ?_)
      replace hF := hF.trans (q_ste u.symm)
      exact K _ H hF
  · replace H := H.2 a20 c1
    replace hF := hF.trans (q_ops c1)
    refine And.intro (fun c3 => ?_) (fun c3 => ?_)
    · replace H := H.1 c3
      replace hF := hF.trans (if_pos c3)
      exact cS_X5_putToServer_48 H (fun M1 q u => K M1 q (hF.trans u))
    · replace H := H.2 c3
      replace hF := hF.trans (if_neg c3)
      refine And.intro (fun c4 => ?_) (fun c4 => ?_)
      · replace H := H.1 c4
        replace hF := hF.trans (if_pos c4)
        exact cS_X5_putToServer_48 H (fun M1 q u => K M1 q (hF.trans u))
      · replace H := H.2 c4
        replace hF := hF.trans (if_neg c4)
        exact cS_X5_putToServer_49 H (fun M1 q u => K M1 q (hF.trans u))
set_option maxRecDepth 100000 in
noncomputable def cF_X1_sayHello (a : Nat) (M : z_Mem) : z_Mem := (q_st (z_sfi M 138 a ((z_fi M 138 a) + 1)) (fun (M_2 : z_Mem) => (q_st (Option.getD (z_fr M_2 128 a) 0) (fun (a4 : Nat) => (q_st (z_sfi M_2 139 a (z_fi M_2 645 a4)) (fun (M_6 : z_Mem) => (q_st (z_new M_6 5 8) (fun (M_8 : z_Mem) => (q_st (cF_X4_init (z_sz M_6) 0 M_8) (fun (M_9 : z_Mem) => (q_st (z_sfi M_9 517 (z_sz M_6) (z_fi M_9 136 a)) (fun (M_11 : z_Mem) => (q_st (z_sfi M_11 518 (z_sz M_6) (z_fi M_11 137 a)) (fun (M_13 : z_Mem) => (q_st (Option.getD (z_fr M_13 128 a) 0) (fun (a16 : Nat) => (q_st (cF_X5_putToServer a16 0 (some (z_sz M_6)) M_13) (fun (M_15 : z_Mem) => M_15))))))))))))))))))
set_option maxRecDepth 100000 in
theorem cE_X1_sayHello (a : Nat) (M : z_Mem) : cF_X1_sayHello a M = (q_st (z_sfi M 138 a ((z_fi M 138 a) + 1)) (fun (M_2 : z_Mem) => (q_st (Option.getD (z_fr M_2 128 a) 0) (fun (a4 : Nat) => (q_st (z_sfi M_2 139 a (z_fi M_2 645 a4)) (fun (M_6 : z_Mem) => (q_st (z_new M_6 5 8) (fun (M_8 : z_Mem) => (q_st (cF_X4_init (z_sz M_6) 0 M_8) (fun (M_9 : z_Mem) => (q_st (z_sfi M_9 517 (z_sz M_6) (z_fi M_9 136 a)) (fun (M_11 : z_Mem) => (q_st (z_sfi M_11 518 (z_sz M_6) (z_fi M_11 137 a)) (fun (M_13 : z_Mem) => (q_st (Option.getD (z_fr M_13 128 a) 0) (fun (a16 : Nat) => (q_st (cF_X5_putToServer a16 0 (some (z_sz M_6)) M_13) (fun (M_15 : z_Mem) => M_15)))))))))))))))))) := rfl
set_option maxRecDepth 100000 in
set_option maxHeartbeats 4000000 in
theorem cS_X1_sayHello {Q Post : z_Mem → Prop} {a : Nat} {M : z_Mem} (H : P_X1_sayHello a M Q) (K : ∀ M1, Q M1 → cF_X1_sayHello a M = M1 → Post M1) : P_X1_sayHello a M Post := by
  have hF := cE_X1_sayHello a M
  unfold P_X1_sayHello at H ⊢
  intro M_2 e_M_2
  replace H := H M_2 e_M_2
  replace hF := hF.trans (q_ste e_M_2)
  obtain ⟨a4, e_a4, H⟩ := H
  refine z_nn_of e_a4 ?_
  replace hF := hF.trans (q_ste (q_gd e_a4))
  intro M_6 e_M_6
  replace H := H M_6 e_M_6
  replace hF := hF.trans (q_ste e_M_6)
  refine And.intro H.1 ?_
  replace H := H.2
  intro M_8 e_M_8
  replace H := H M_8 e_M_8
  replace hF := hF.trans (q_ste e_M_8)
  refine cS_X4_init H (fun M_9 H u => ?_)
  replace hF := hF.trans (q_ste u.symm)
  intro M_11 e_M_11
  replace H := H M_11 e_M_11
  replace hF := hF.trans (q_ste e_M_11)
  intro M_13 e_M_13
  replace H := H M_13 e_M_13
  replace hF := hF.trans (q_ste e_M_13)
  obtain ⟨a16, e_a16, H⟩ := H
  refine z_nn_of e_a16 ?_
  replace hF := hF.trans (q_ste (q_gd e_a16))
  refine cS_X5_putToServer H (fun M_15 H u => ?_)
  replace hF := hF.trans (q_ste u.symm)
  exact K _ H hF
set_option maxRecDepth 100000 in
noncomputable def cF_X1_beginHello (a : Nat) (p1 : Int32) (M : z_Mem) : z_Mem := (q_st (z_sfi M 135 a 1) (fun (M_1 : z_Mem) => (q_st (z_sfi M_1 136 a p1) (fun (M_2 : z_Mem) => (q_st (cF_X1_sayHello a M_2) (fun (M_3 : z_Mem) => M_3))))))
set_option maxRecDepth 100000 in
theorem cE_X1_beginHello (a : Nat) (p1 : Int32) (M : z_Mem) : cF_X1_beginHello a p1 M = (q_st (z_sfi M 135 a 1) (fun (M_1 : z_Mem) => (q_st (z_sfi M_1 136 a p1) (fun (M_2 : z_Mem) => (q_st (cF_X1_sayHello a M_2) (fun (M_3 : z_Mem) => M_3)))))) := rfl
set_option maxRecDepth 100000 in
set_option maxHeartbeats 4000000 in
theorem cS_X1_beginHello {Q Post : z_Mem → Prop} {a : Nat} {p1 : Int32} {M : z_Mem} (H : P_X1_beginHello a p1 M Q) (K : ∀ M1, Q M1 → cF_X1_beginHello a p1 M = M1 → Post M1) : P_X1_beginHello a p1 M Post := by
  have hF := cE_X1_beginHello a p1 M
  unfold P_X1_beginHello at H ⊢
  intro M_1 e_M_1
  replace H := H M_1 e_M_1
  replace hF := hF.trans (q_ste e_M_1)
  intro M_2 e_M_2
  replace H := H M_2 e_M_2
  replace hF := hF.trans (q_ste e_M_2)
  refine cS_X1_sayHello H (fun M_3 H u => ?_)
  replace hF := hF.trans (q_ste u.symm)
  exact K _ H hF
set_option maxRecDepth 100000 in
noncomputable def cF_X1_isAcknowledged (p1 : Option Nat) (M : z_Mem) : (Int32 × z_Mem) := (q_st (Option.getD p1 0) (fun (a1 : Nat) => (if ((z_fi M 778 a1) = 1) then (1, M) else (if ((z_fi M 778 a1) = 3) then (1, M) else (0, M)))))
set_option maxRecDepth 100000 in
theorem cE_X1_isAcknowledged (p1 : Option Nat) (M : z_Mem) : cF_X1_isAcknowledged p1 M = (q_st (Option.getD p1 0) (fun (a1 : Nat) => (if ((z_fi M 778 a1) = 1) then (1, M) else (if ((z_fi M 778 a1) = 3) then (1, M) else (0, M))))) := rfl
set_option maxRecDepth 100000 in
set_option maxHeartbeats 4000000 in
theorem cS_X1_isAcknowledged {Q Post : Int32 → z_Mem → Prop} {p1 : Option Nat} {M : z_Mem} (H : P_X1_isAcknowledged p1 M Q) (K : ∀ x M1, Q x M1 → cF_X1_isAcknowledged p1 M = (x, M1) → Post x M1) : P_X1_isAcknowledged p1 M Post := by
  have hF := cE_X1_isAcknowledged p1 M
  unfold P_X1_isAcknowledged at H ⊢
  obtain ⟨a1, e_a1, H⟩ := H
  refine z_nn_of e_a1 ?_
  replace hF := hF.trans (q_ste (q_gd e_a1))
  refine And.intro (fun c1 => ?_) (fun c1 => ?_)
  · replace H := H.1 c1
    replace hF := hF.trans (if_pos c1)
    exact K _ _ H hF
  · replace H := H.2 c1
    replace hF := hF.trans (if_neg c1)
    refine And.intro (fun c2 => ?_) (fun c2 => ?_)
    · replace H := H.1 c2
      replace hF := hF.trans (if_pos c2)
      exact K _ _ H hF
    · replace H := H.2 c2
      replace hF := hF.trans (if_neg c2)
      exact K _ _ H hF
set_option maxRecDepth 100000 in
noncomputable def cF_X1_canChangeKey_42 (a : Nat) (x1 : Int32) (x2 : Int32) (M : z_Mem) : ((Int32 × Int32 × z_Mem) ⊕ (Int32 × z_Mem)) := (q_st (x2 + 1) (fun (x_1 : Int32) => (.inl (x1, x_1, M))))
set_option maxRecDepth 100000 in
theorem cE_X1_canChangeKey_42 (a : Nat) (x1 : Int32) (x2 : Int32) (M : z_Mem) : cF_X1_canChangeKey_42 a x1 x2 M = (q_st (x2 + 1) (fun (x_1 : Int32) => (.inl (x1, x_1, M)))) := rfl
set_option maxRecDepth 100000 in
set_option maxHeartbeats 4000000 in
theorem cS_X1_canChangeKey_42 {Q Post : Int32 → z_Mem → Prop} {a : Nat} {x1 : Int32} {x2 : Int32} {QJ4 PJ4 : Int32 → Int32 → z_Mem → Prop} {M : z_Mem} (H : P_X1_canChangeKey_42 a Q QJ4 x1 x2 M) (K : ∀ x M1, Q x M1 → cF_X1_canChangeKey_42 a x1 x2 M = (.inr (x, M1)) → Post x M1) (KJ4 : ∀ v0 v1 M1, QJ4 v0 v1 M1 → cF_X1_canChangeKey_42 a x1 x2 M = (.inl (v0, v1, M1)) → PJ4 v0 v1 M1) : P_X1_canChangeKey_42 a Post PJ4 x1 x2 M := by
  have hF := cE_X1_canChangeKey_42 a x1 x2 M
  unfold P_X1_canChangeKey_42 at H ⊢
  intro x_1 e_x_1
  replace H := H x_1 e_x_1
  replace hF := hF.trans (q_ste e_x_1)
  exact KJ4 _ _ _ H hF
set_option maxRecDepth 100000 in
noncomputable def cB_X1_canChangeKey_4 (a : Nat) (x1 : Int32) (x2 : Int32) (M : z_Mem) : (Int32 × Int32 × z_Mem) ⊕ (Int32 × z_Mem) := (if ((z_fi M 133 a) ≤ x2) then (if ((z_fi M 135 a) = 2) then (if (x1 = 0) then (.inr (0, M)) else (.inr (1, M))) else (.inr (0, M))) else (q_st2 (cF_X1_packetAt a x2 M) (fun (x_7 : Option Nat) (M_7 : z_Mem) => (q_op x_7 (cF_X1_canChangeKey_42 a x1 x2 M_7) (fun a8 => (if ((z_fi M_7 774 a8) = (z_fi M_7 142 a)) then (q_st2 (cF_X1_isAcknowledged x_7 M_7) (fun (x_12 : Int32) (M_12 : z_Mem) => (if (x_12 = 0) then (cF_X1_canChangeKey_42 a x1 x2 M_12) else (cF_X1_canChangeKey_42 a 1 x2 M_12)))) else (cF_X1_canChangeKey_42 a x1 x2 M_7)))))))
set_option maxRecDepth 100000 in
noncomputable def cF_X1_canChangeKey_4 (a : Nat) (x1 : Int32) (x2 : Int32) (M : z_Mem) : (Int32 × z_Mem) := q_lp (X := (Int32 × Int32 × z_Mem)) (Y := (Int32 × z_Mem)) ((0 : Int32), M) (fun t => cB_X1_canChangeKey_4 a t.1 t.2.1 t.2.2) (x1, x2, M)
set_option maxRecDepth 100000 in
theorem cUl_X1_canChangeKey_4 {a : Nat} {x1 : Int32} {x2 : Int32} {M : z_Mem} {y_x1 : Int32} {y_x2 : Int32} {M1 : z_Mem} (h : cB_X1_canChangeKey_4 a x1 x2 M = .inl (y_x1, y_x2, M1)) : cF_X1_canChangeKey_4 a x1 x2 M = cF_X1_canChangeKey_4 a y_x1 y_x2 M1 := q_lpl (step := fun t => cB_X1_canChangeKey_4 a t.1 t.2.1 t.2.2) h
set_option maxRecDepth 100000 in
theorem cUr_X1_canChangeKey_4 {a : Nat} {x1 : Int32} {x2 : Int32} {M : z_Mem} {y : (Int32 × z_Mem)} (h : cB_X1_canChangeKey_4 a x1 x2 M = .inr y) : cF_X1_canChangeKey_4 a x1 x2 M = y := q_lpr (step := fun t => cB_X1_canChangeKey_4 a t.1 t.2.1 t.2.2) h
set_option maxRecDepth 100000 in
theorem cE_X1_canChangeKey_4 (a : Nat) (x1 : Int32) (x2 : Int32) (M : z_Mem) : cB_X1_canChangeKey_4 a x1 x2 M = (if ((z_fi M 133 a) ≤ x2) then (if ((z_fi M 135 a) = 2) then (if (x1 = 0) then (.inr (0, M)) else (.inr (1, M))) else (.inr (0, M))) else (q_st2 (cF_X1_packetAt a x2 M) (fun (x_7 : Option Nat) (M_7 : z_Mem) => (q_op x_7 (cF_X1_canChangeKey_42 a x1 x2 M_7) (fun a8 => (if ((z_fi M_7 774 a8) = (z_fi M_7 142 a)) then (q_st2 (cF_X1_isAcknowledged x_7 M_7) (fun (x_12 : Int32) (M_12 : z_Mem) => (if (x_12 = 0) then (cF_X1_canChangeKey_42 a x1 x2 M_12) else (cF_X1_canChangeKey_42 a 1 x2 M_12)))) else (cF_X1_canChangeKey_42 a x1 x2 M_7))))))) := rfl
set_option maxRecDepth 100000 in
set_option maxHeartbeats 4000000 in
theorem cS_X1_canChangeKey_4 {Q Post : Int32 → z_Mem → Prop} {a : Nat} : ∀ (m : Nat) {x1 : Int32} {x2 : Int32} {M : z_Mem} (H : P_X1_canChangeKey_4 a Q m x1 x2 M) (K : ∀ x M1, Q x M1 → cF_X1_canChangeKey_4 a x1 x2 M = (x, M1) → Post x M1), P_X1_canChangeKey_4 a Post m x1 x2 M := by
  intro m
  induction m with
  | zero => intros; rename_i H _; exact False.elim H
  | succ m ih =>
    intro x1 x2 M H K
    have hF := cE_X1_canChangeKey_4 a x1 x2 M
    unfold P_X1_canChangeKey_4 at H ⊢
    refine And.intro (fun c1 => ?_) (fun c1 => ?_)
    · replace H := H.1 c1
      replace hF := hF.trans (if_pos c1)
      refine And.intro (fun c2 => ?_) (fun c2 => ?_)
      · replace H := H.1 c2
        replace hF := hF.trans (if_pos c2)
        refine And.intro (fun c3 => ?_) (fun c3 => ?_)
        · replace H := H.1 c3
          replace hF := hF.trans (if_pos c3)
          exact K _ _ H (cUr_X1_canChangeKey_4 hF)
        · replace H := H.2 c3
          replace hF := hF.trans (if_neg c3)
          exact K _ _ H (cUr_X1_canChangeKey_4 hF)
      · replace H := H.2 c2
        replace hF := hF.trans (if_neg c2)
        exact K _ _ H (cUr_X1_canChangeKey_4 hF)
    · replace H := H.2 c1
      replace hF := hF.trans (if_neg c1)
      refine cS_X1_packetAt H (fun x_7 M_7 H u => ?_)
      replace hF := hF.trans (q_ste2 u)
      refine And.intro (fun c4 => ?_) (fun a8 c4 => ?_)
      · replace H := H.1 c4
        replace hF := hF.trans (q_opn c4)
        exact cS_X1_canChangeKey_42 H (fun x M1 q u => K x M1 q (cUr_X1_canChangeKey_4 (hF.trans u))) (fun v0 v1 M1 q u => ih q (fun x M1 q u2 => K x M1 q ((cUl_X1_canChangeKey_4 (hF.trans u)).trans u2))) 
      · replace H := H.2 a8 c4
        replace hF := hF.trans (q_ops c4)
        refine And.intro (fun c5 => ?_) (fun c5 => ?_)
        · replace H := H.1 c5
          replace hF := hF.trans (if_pos c5)
          refine cS_X1_isAcknowledged H (fun x_12 M_12 H u => ?_)
          replace hF := hF.trans (q_ste2 u)
          refine And.intro (fun c6 => ?_) (fun c6 => ?_)
          · replace H := H.1 c6
            replace hF := hF.trans (if_pos c6)
            exact cS_X1_canChangeKey_42 H (fun x M1 q u => K x M1 q (cUr_X1_canChangeKey_4 (hF.trans u))) (fun v0 v1 M1 q u => ih q (fun x M1 q u2 => K x M1 q ((cUl_X1_canChangeKey_4 (hF.trans u)).trans u2))) 
          · replace H := H.2 c6
            replace hF := hF.trans (if_neg c6)
            exact cS_X1_canChangeKey_42 H (fun x M1 q u => K x M1 q (cUr_X1_canChangeKey_4 (hF.trans u))) (fun v0 v1 M1 q u => ih q (fun x M1 q u2 => K x M1 q ((cUl_X1_canChangeKey_4 (hF.trans u)).trans u2))) 
        · replace H := H.2 c5
          replace hF := hF.trans (if_neg c5)
          exact cS_X1_canChangeKey_42 H (fun x M1 q u => K x M1 q (cUr_X1_canChangeKey_4 (hF.trans u))) (fun v0 v1 M1 q u => ih q (fun x M1 q u2 => K x M1 q ((cUl_X1_canChangeKey_4 (hF.trans u)).trans u2))) 
set_option maxRecDepth 100000 in
noncomputable def cF_X1_canChangeKey (a : Nat) (M : z_Mem) : (Int32 × z_Mem) := (cF_X1_canChangeKey_4 a 0 0 M)
set_option maxRecDepth 100000 in
theorem cE_X1_canChangeKey (a : Nat) (M : z_Mem) : cF_X1_canChangeKey a M = (cF_X1_canChangeKey_4 a 0 0 M) := rfl
set_option maxRecDepth 100000 in
set_option maxHeartbeats 4000000 in
theorem cS_X1_canChangeKey {Q Post : Int32 → z_Mem → Prop} {a : Nat} {M : z_Mem} (H : P_X1_canChangeKey a M Q) (K : ∀ x M1, Q x M1 → cF_X1_canChangeKey a M = (x, M1) → Post x M1) : P_X1_canChangeKey a M Post := by
  have hF := cE_X1_canChangeKey a M
  unfold P_X1_canChangeKey at H ⊢
  obtain ⟨m, H⟩ := H
  refine ⟨m, ?_⟩
  exact cS_X1_canChangeKey_4 m H (fun x M1 q u => K x M1 q (hF.trans u))
set_option maxRecDepth 100000 in
noncomputable def cF_X1_beginClosing (a : Nat) (M : z_Mem) : z_Mem := (q_st (z_sfi M 135 a 3) (fun (M_1 : z_Mem) => (q_st (Option.getD (z_fr M_1 128 a) 0) (fun (a3 : Nat) => (q_st (z_sfi M_1 141 a ((z_fi M_1 645 a3) + 30)) (fun (M_5 : z_Mem) => (if ((z_fi M_5 143 a) = 1) then (q_st (z_new M_5 5 8) (fun (M_15 : z_Mem) => (q_st (cF_X4_init (z_sz M_5) 7 M_15) (fun (M_16 : z_Mem) => (q_st (Option.getD (z_fr M_5 128 a) 0) (fun (a18 : Nat) => (q_st (cF_X5_putToServer a18 1 (some (z_sz M_5)) M_16) (fun (M_17 : z_Mem) => M_17)))))))) else (q_st (z_new M_5 5 8) (fun (M_10 : z_Mem) => (q_st (cF_X4_init (z_sz M_5) 7 M_10) (fun (M_11 : z_Mem) => (q_st (Option.getD (z_fr M_5 128 a) 0) (fun (a13 : Nat) => (q_st (cF_X5_putToServer a13 0 (some (z_sz M_5)) M_11) (fun (M_12 : z_Mem) => M_12)))))))))))))))
set_option maxRecDepth 100000 in
theorem cE_X1_beginClosing (a : Nat) (M : z_Mem) : cF_X1_beginClosing a M = (q_st (z_sfi M 135 a 3) (fun (M_1 : z_Mem) => (q_st (Option.getD (z_fr M_1 128 a) 0) (fun (a3 : Nat) => (q_st (z_sfi M_1 141 a ((z_fi M_1 645 a3) + 30)) (fun (M_5 : z_Mem) => (if ((z_fi M_5 143 a) = 1) then (q_st (z_new M_5 5 8) (fun (M_15 : z_Mem) => (q_st (cF_X4_init (z_sz M_5) 7 M_15) (fun (M_16 : z_Mem) => (q_st (Option.getD (z_fr M_5 128 a) 0) (fun (a18 : Nat) => (q_st (cF_X5_putToServer a18 1 (some (z_sz M_5)) M_16) (fun (M_17 : z_Mem) => M_17)))))))) else (q_st (z_new M_5 5 8) (fun (M_10 : z_Mem) => (q_st (cF_X4_init (z_sz M_5) 7 M_10) (fun (M_11 : z_Mem) => (q_st (Option.getD (z_fr M_5 128 a) 0) (fun (a13 : Nat) => (q_st (cF_X5_putToServer a13 0 (some (z_sz M_5)) M_11) (fun (M_12 : z_Mem) => M_12))))))))))))))) := rfl
set_option maxRecDepth 100000 in
set_option maxHeartbeats 4000000 in
theorem cS_X1_beginClosing {Q Post : z_Mem → Prop} {a : Nat} {M : z_Mem} (H : P_X1_beginClosing a M Q) (K : ∀ M1, Q M1 → cF_X1_beginClosing a M = M1 → Post M1) : P_X1_beginClosing a M Post := by
  have hF := cE_X1_beginClosing a M
  unfold P_X1_beginClosing at H ⊢
  intro M_1 e_M_1
  replace H := H M_1 e_M_1
  replace hF := hF.trans (q_ste e_M_1)
  obtain ⟨a3, e_a3, H⟩ := H
  refine z_nn_of e_a3 ?_
  replace hF := hF.trans (q_ste (q_gd e_a3))
  intro M_5 e_M_5
  replace H := H M_5 e_M_5
  replace hF := hF.trans (q_ste e_M_5)
  refine And.intro (fun c1 => ?_) (fun c1 => ?_)
  · replace H := H.1 c1
    replace hF := hF.trans (if_pos c1)
    refine And.intro H.1 ?_
    replace H := H.2
    intro M_15 e_M_15
    replace H := H M_15 e_M_15
    replace hF := hF.trans (q_ste e_M_15)
    refine cS_X4_init H (fun M_16 H u => ?_)
    replace hF := hF.trans (q_ste u.symm)
    obtain ⟨a18, e_a18, H⟩ := H
    refine z_nn_of e_a18 ?_
    replace hF := hF.trans (q_ste (q_gd e_a18))
    refine cS_X5_putToServer H (fun M_17 H u => ?_)
    replace hF := hF.trans (q_ste u.symm)
    exact K _ H hF
  · replace H := H.2 c1
    replace hF := hF.trans (if_neg c1)
    refine And.intro H.1 ?_
    replace H := H.2
    intro M_10 e_M_10
    replace H := H M_10 e_M_10
    replace hF := hF.trans (q_ste e_M_10)
    refine cS_X4_init H (fun M_11 H u => ?_)
    replace hF := hF.trans (q_ste u.symm)
    obtain ⟨a13, e_a13, H⟩ := H
    refine z_nn_of e_a13 ?_
    replace hF := hF.trans (q_ste (q_gd e_a13))
    refine cS_X5_putToServer H (fun M_12 H u => ?_)
    replace hF := hF.trans (q_ste u.symm)
    exact K _ H hF
set_option maxRecDepth 100000 in
noncomputable def cF_X10_takeDue_83 (a : Nat) (x1 : Int32) (x2 : Int32) (M : z_Mem) : ((Int32 × Int32 × z_Mem) ⊕ (Option Nat × z_Mem)) := (q_st (x2 + 1) (fun (x_1 : Int32) => (.inl (x1, x_1, M))))
set_option maxRecDepth 100000 in
theorem cE_X10_takeDue_83 (a : Nat) (x1 : Int32) (x2 : Int32) (M : z_Mem) : cF_X10_takeDue_83 a x1 x2 M = (q_st (x2 + 1) (fun (x_1 : Int32) => (.inl (x1, x_1, M)))) := rfl
set_option maxRecDepth 100000 in
set_option maxHeartbeats 4000000 in
theorem cS_X10_takeDue_83 {Q Post : Option Nat → z_Mem → Prop} {a : Nat} {x1 : Int32} {x2 : Int32} {QJ2 PJ2 : Int32 → Int32 → z_Mem → Prop} {M : z_Mem} (H : P_X10_takeDue_83 a Q QJ2 x1 x2 M) (K : ∀ x M1, Q x M1 → cF_X10_takeDue_83 a x1 x2 M = (.inr (x, M1)) → Post x M1) (KJ2 : ∀ v0 v1 M1, QJ2 v0 v1 M1 → cF_X10_takeDue_83 a x1 x2 M = (.inl (v0, v1, M1)) → PJ2 v0 v1 M1) : P_X10_takeDue_83 a Post PJ2 x1 x2 M := by
  have hF := cE_X10_takeDue_83 a x1 x2 M
  unfold P_X10_takeDue_83 at H ⊢
  intro x_1 e_x_1
  replace H := H x_1 e_x_1
  replace hF := hF.trans (q_ste e_x_1)
  exact KJ2 _ _ _ H hF
set_option maxRecDepth 100000 in
noncomputable def cB_X10_takeDue_2 (a : Nat) (x1 : Int32) (x2 : Int32) (M : z_Mem) : (Int32 × Int32 × z_Mem) ⊕ (Option Nat × z_Mem) := (if ((z_fi M 1281 a) ≤ x2) then (.inr (none, M)) else (q_st (Option.getD (z_fr M 1280 a) 0) (fun (a5 : Nat) => (if ((nI (z_ln M a5)) ≤ x2) then (.inr (none, M)) else (q_st (Option.getD (z_fr M 1280 a) 0) (fun (a8 : Nat) => (q_op (z_ar M a8 (x2 : Int32).toNatClampNeg) (cF_X10_takeDue_83 a x1 x2 M) (fun a10 => (if ((z_fi M 514 a10) = x1) then (q_st (Option.getD (z_fr M 1280 a) 0) (fun (a16 : Nat) => (q_st (z_srr M a16 (va_cpy (z_ar M a16) (z_ar M a16) ((x2 + 1) : Int32).toNatClampNeg (x2 : Int32).toNatClampNeg ((((z_fi M 1281 a) - x2) - 1) : Int32).toNatClampNeg)) (fun (M_18 : z_Mem) => (q_st (z_sfi M_18 1281 a ((z_fi M_18 1281 a) - 1)) (fun (M_20 : z_Mem) => (q_st (Option.getD (z_fr M_20 1280 a) 0) (fun (a23 : Nat) => (q_st (z_sar M_20 a23 ((z_fi M_20 1281 a) : Int32).toNatClampNeg none) (fun (M_25 : z_Mem) => (.inr ((z_ar M a8 (x2 : Int32).toNatClampNeg), M_25)))))))))))) else (cF_X10_takeDue_83 a x1 x2 M))))))))))
set_option maxRecDepth 100000 in
noncomputable def cF_X10_takeDue_2 (a : Nat) (x1 : Int32) (x2 : Int32) (M : z_Mem) : (Option Nat × z_Mem) := q_lp (X := (Int32 × Int32 × z_Mem)) (Y := (Option Nat × z_Mem)) ((none : Option Nat), M) (fun t => cB_X10_takeDue_2 a t.1 t.2.1 t.2.2) (x1, x2, M)
set_option maxRecDepth 100000 in
theorem cUl_X10_takeDue_2 {a : Nat} {x1 : Int32} {x2 : Int32} {M : z_Mem} {y_x1 : Int32} {y_x2 : Int32} {M1 : z_Mem} (h : cB_X10_takeDue_2 a x1 x2 M = .inl (y_x1, y_x2, M1)) : cF_X10_takeDue_2 a x1 x2 M = cF_X10_takeDue_2 a y_x1 y_x2 M1 := q_lpl (step := fun t => cB_X10_takeDue_2 a t.1 t.2.1 t.2.2) h
set_option maxRecDepth 100000 in
theorem cUr_X10_takeDue_2 {a : Nat} {x1 : Int32} {x2 : Int32} {M : z_Mem} {y : (Option Nat × z_Mem)} (h : cB_X10_takeDue_2 a x1 x2 M = .inr y) : cF_X10_takeDue_2 a x1 x2 M = y := q_lpr (step := fun t => cB_X10_takeDue_2 a t.1 t.2.1 t.2.2) h
set_option maxRecDepth 100000 in
theorem cE_X10_takeDue_2 (a : Nat) (x1 : Int32) (x2 : Int32) (M : z_Mem) : cB_X10_takeDue_2 a x1 x2 M = (if ((z_fi M 1281 a) ≤ x2) then (.inr (none, M)) else (q_st (Option.getD (z_fr M 1280 a) 0) (fun (a5 : Nat) => (if ((nI (z_ln M a5)) ≤ x2) then (.inr (none, M)) else (q_st (Option.getD (z_fr M 1280 a) 0) (fun (a8 : Nat) => (q_op (z_ar M a8 (x2 : Int32).toNatClampNeg) (cF_X10_takeDue_83 a x1 x2 M) (fun a10 => (if ((z_fi M 514 a10) = x1) then (q_st (Option.getD (z_fr M 1280 a) 0) (fun (a16 : Nat) => (q_st (z_srr M a16 (va_cpy (z_ar M a16) (z_ar M a16) ((x2 + 1) : Int32).toNatClampNeg (x2 : Int32).toNatClampNeg ((((z_fi M 1281 a) - x2) - 1) : Int32).toNatClampNeg)) (fun (M_18 : z_Mem) => (q_st (z_sfi M_18 1281 a ((z_fi M_18 1281 a) - 1)) (fun (M_20 : z_Mem) => (q_st (Option.getD (z_fr M_20 1280 a) 0) (fun (a23 : Nat) => (q_st (z_sar M_20 a23 ((z_fi M_20 1281 a) : Int32).toNatClampNeg none) (fun (M_25 : z_Mem) => (.inr ((z_ar M a8 (x2 : Int32).toNatClampNeg), M_25)))))))))))) else (cF_X10_takeDue_83 a x1 x2 M)))))))))) := rfl
set_option maxRecDepth 100000 in
set_option maxHeartbeats 4000000 in
theorem cS_X10_takeDue_2 {Q Post : Option Nat → z_Mem → Prop} {a : Nat} : ∀ (m : Nat) {x1 : Int32} {x2 : Int32} {M : z_Mem} (H : P_X10_takeDue_2 a Q m x1 x2 M) (K : ∀ x M1, Q x M1 → cF_X10_takeDue_2 a x1 x2 M = (x, M1) → Post x M1), P_X10_takeDue_2 a Post m x1 x2 M := by
  intro m
  induction m with
  | zero => intros; rename_i H _; exact False.elim H
  | succ m ih =>
    intro x1 x2 M H K
    have hF := cE_X10_takeDue_2 a x1 x2 M
    unfold P_X10_takeDue_2 at H ⊢
    refine And.intro (fun c1 => ?_) (fun c1 => ?_)
    · replace H := H.1 c1
      replace hF := hF.trans (if_pos c1)
      exact K _ _ H (cUr_X10_takeDue_2 hF)
    · replace H := H.2 c1
      replace hF := hF.trans (if_neg c1)
      obtain ⟨a5, e_a5, H⟩ := H
      refine z_nn_of e_a5 ?_
      replace hF := hF.trans (q_ste (q_gd e_a5))
      refine And.intro (fun c2 => ?_) (fun c2 => ?_)
      · replace H := H.1 c2
        replace hF := hF.trans (if_pos c2)
        exact K _ _ H (cUr_X10_takeDue_2 hF)
      · replace H := H.2 c2
        replace hF := hF.trans (if_neg c2)
        obtain ⟨a8, e_a8, H⟩ := H
        refine z_nn_of e_a8 ?_
        replace hF := hF.trans (q_ste (q_gd e_a8))
        refine And.intro H.1 ?_
        replace H := H.2
        refine And.intro (fun c3 => ?_) (fun a10 c3 => ?_)
        · replace H := H.1 c3
          replace hF := hF.trans (q_opn c3)
          exact cS_X10_takeDue_83 H (fun x M1 q u => K x M1 q (cUr_X10_takeDue_2 (hF.trans u))) (fun v0 v1 M1 q u => ih q (fun x M1 q u2 => K x M1 q ((cUl_X10_takeDue_2 (hF.trans u)).trans u2))) 
        · replace H := H.2 a10 c3
          replace hF := hF.trans (q_ops c3)
          refine And.intro (fun c4 => ?_) (fun c4 => ?_)
          · replace H := H.1 c4
            replace hF := hF.trans (if_pos c4)
            obtain ⟨a16, e_a16, H⟩ := H
            refine z_nn_of e_a16 ?_
            replace hF := hF.trans (q_ste (q_gd e_a16))
            refine And.intro H.1 ?_
            replace H := H.2
            refine And.intro H.1 ?_
            replace H := H.2
            refine And.intro H.1 ?_
            replace H := H.2
            refine And.intro H.1 ?_
            replace H := H.2
            refine And.intro H.1 ?_
            replace H := H.2
            intro M_18 e_M_18
            replace H := H M_18 e_M_18
            replace hF := hF.trans (q_ste e_M_18)
            intro M_20 e_M_20
            replace H := H M_20 e_M_20
            replace hF := hF.trans (q_ste e_M_20)
            obtain ⟨a23, e_a23, H⟩ := H
            refine z_nn_of e_a23 ?_
            replace hF := hF.trans (q_ste (q_gd e_a23))
            refine And.intro H.1 ?_
            replace H := H.2
            intro M_25 e_M_25
            replace H := H M_25 e_M_25
            replace hF := hF.trans (q_ste e_M_25)
            exact K _ _ H (cUr_X10_takeDue_2 hF)
          · replace H := H.2 c4
            replace hF := hF.trans (if_neg c4)
            exact cS_X10_takeDue_83 H (fun x M1 q u => K x M1 q (cUr_X10_takeDue_2 (hF.trans u))) (fun v0 v1 M1 q u => ih q (fun x M1 q u2 => K x M1 q ((cUl_X10_takeDue_2 (hF.trans u)).trans u2))) 
set_option maxRecDepth 100000 in
noncomputable def cF_X10_takeDue (a : Nat) (p1 : Int32) (M : z_Mem) : (Option Nat × z_Mem) := (cF_X10_takeDue_2 a p1 0 M)
set_option maxRecDepth 100000 in
theorem cE_X10_takeDue (a : Nat) (p1 : Int32) (M : z_Mem) : cF_X10_takeDue a p1 M = (cF_X10_takeDue_2 a p1 0 M) := rfl
set_option maxRecDepth 100000 in
set_option maxHeartbeats 4000000 in
theorem cS_X10_takeDue {Q Post : Option Nat → z_Mem → Prop} {a : Nat} {p1 : Int32} {M : z_Mem} (H : P_X10_takeDue a p1 M Q) (K : ∀ x M1, Q x M1 → cF_X10_takeDue a p1 M = (x, M1) → Post x M1) : P_X10_takeDue a p1 M Post := by
  have hF := cE_X10_takeDue a p1 M
  unfold P_X10_takeDue at H ⊢
  obtain ⟨m, H⟩ := H
  refine ⟨m, ?_⟩
  exact cS_X10_takeDue_2 m H (fun x M1 q u => K x M1 q (hF.trans u))
set_option maxRecDepth 100000 in
noncomputable def cF_X7_measure (a : Nat) (p1 : Int32) (M : z_Mem) : z_Mem := (q_st (z_sfi M 903 a p1) (fun (M_1 : z_Mem) => (if ((z_fi M_1 904 a) = 0) then (q_st (z_sfi M_1 904 a 1) (fun (M_4 : z_Mem) => (q_st (z_sfi M_4 902 a p1) (fun (M_5 : z_Mem) => (q_st (z_sfi M_5 901 a (2 * p1)) (fun (M_6 : z_Mem) => (q_st (z_sfi M_6 900 a (8 * p1)) (fun (M_7 : z_Mem) => M_7)))))))) else (q_st (z_sfi M_1 902 a ((if (p1 < (z_fi M_1 902 a)) then p1 else (z_fi M_1 902 a)) : Int32)) (fun (M_9 : z_Mem) => (q_st (z_sfi M_9 901 a ((z_fi M_9 901 a) + (((if (0 ≤ (p1 - ((z_fi M_9 900 a) / 8))) then (p1 - ((z_fi M_9 900 a) / 8)) else (0 - (p1 - ((z_fi M_9 900 a) / 8)))) : Int32) - ((z_fi M_9 901 a) / 4)))) (fun (M_13 : z_Mem) => (q_st (z_sfi M_13 900 a ((z_fi M_13 900 a) + (p1 - ((z_fi M_13 900 a) / 8)))) (fun (M_16 : z_Mem) => M_16)))))))))
set_option maxRecDepth 100000 in
theorem cE_X7_measure (a : Nat) (p1 : Int32) (M : z_Mem) : cF_X7_measure a p1 M = (q_st (z_sfi M 903 a p1) (fun (M_1 : z_Mem) => (if ((z_fi M_1 904 a) = 0) then (q_st (z_sfi M_1 904 a 1) (fun (M_4 : z_Mem) => (q_st (z_sfi M_4 902 a p1) (fun (M_5 : z_Mem) => (q_st (z_sfi M_5 901 a (2 * p1)) (fun (M_6 : z_Mem) => (q_st (z_sfi M_6 900 a (8 * p1)) (fun (M_7 : z_Mem) => M_7)))))))) else (q_st (z_sfi M_1 902 a ((if (p1 < (z_fi M_1 902 a)) then p1 else (z_fi M_1 902 a)) : Int32)) (fun (M_9 : z_Mem) => (q_st (z_sfi M_9 901 a ((z_fi M_9 901 a) + (((if (0 ≤ (p1 - ((z_fi M_9 900 a) / 8))) then (p1 - ((z_fi M_9 900 a) / 8)) else (0 - (p1 - ((z_fi M_9 900 a) / 8)))) : Int32) - ((z_fi M_9 901 a) / 4)))) (fun (M_13 : z_Mem) => (q_st (z_sfi M_13 900 a ((z_fi M_13 900 a) + (p1 - ((z_fi M_13 900 a) / 8)))) (fun (M_16 : z_Mem) => M_16))))))))) := rfl
set_option maxRecDepth 100000 in
set_option maxHeartbeats 4000000 in
theorem cS_X7_measure {Q Post : z_Mem → Prop} {a : Nat} {p1 : Int32} {M : z_Mem} (H : P_X7_measure a p1 M Q) (K : ∀ M1, Q M1 → cF_X7_measure a p1 M = M1 → Post M1) : P_X7_measure a p1 M Post := by
  have hF := cE_X7_measure a p1 M
  unfold P_X7_measure at H ⊢
  intro M_1 e_M_1
  replace H := H M_1 e_M_1
  replace hF := hF.trans (q_ste e_M_1)
  refine And.intro (fun c1 => ?_) (fun c1 => ?_)
  · replace H := H.1 c1
    replace hF := hF.trans (if_pos c1)
    intro M_4 e_M_4
    replace H := H M_4 e_M_4
    replace hF := hF.trans (q_ste e_M_4)
    intro M_5 e_M_5
    replace H := H M_5 e_M_5
    replace hF := hF.trans (q_ste e_M_5)
    intro M_6 e_M_6
    replace H := H M_6 e_M_6
    replace hF := hF.trans (q_ste e_M_6)
    intro M_7 e_M_7
    replace H := H M_7 e_M_7
    replace hF := hF.trans (q_ste e_M_7)
    exact K _ H hF
  · replace H := H.2 c1
    replace hF := hF.trans (if_neg c1)
    intro M_9 e_M_9
    replace H := H M_9 e_M_9
    replace hF := hF.trans (q_ste e_M_9)
    intro M_13 e_M_13
    replace H := H M_13 e_M_13
    replace hF := hF.trans (q_ste e_M_13)
    intro M_16 e_M_16
    replace H := H M_16 e_M_16
    replace hF := hF.trans (q_ste e_M_16)
    exact K _ H hF
set_option maxRecDepth 100000 in
noncomputable def cF_X9_isLost (a : Nat) (p1 : Int32) (M : z_Mem) : (Int32 × z_Mem) := (if (p1 < 0) then (0, M) else (if ((z_fi M 1153 a) ≤ p1) then (0, M) else (if (200 ≤ p1) then (0, M) else (q_st (Option.getD (z_fr M 1159 a) 0) (fun (a6 : Nat) => (if ((z_ai M a6 (p1 : Int32).toNatClampNeg) = 0) then (q_st (Option.getD (z_fr M 1160 a) 0) (fun (a10 : Nat) => (if ((z_ai M a10 (p1 : Int32).toNatClampNeg) = 0) then (1, M) else (0, M)))) else (0, M)))))))
set_option maxRecDepth 100000 in
theorem cE_X9_isLost (a : Nat) (p1 : Int32) (M : z_Mem) : cF_X9_isLost a p1 M = (if (p1 < 0) then (0, M) else (if ((z_fi M 1153 a) ≤ p1) then (0, M) else (if (200 ≤ p1) then (0, M) else (q_st (Option.getD (z_fr M 1159 a) 0) (fun (a6 : Nat) => (if ((z_ai M a6 (p1 : Int32).toNatClampNeg) = 0) then (q_st (Option.getD (z_fr M 1160 a) 0) (fun (a10 : Nat) => (if ((z_ai M a10 (p1 : Int32).toNatClampNeg) = 0) then (1, M) else (0, M)))) else (0, M))))))) := rfl
set_option maxRecDepth 100000 in
set_option maxHeartbeats 4000000 in
theorem cS_X9_isLost {Q Post : Int32 → z_Mem → Prop} {a : Nat} {p1 : Int32} {M : z_Mem} (H : P_X9_isLost a p1 M Q) (K : ∀ x M1, Q x M1 → cF_X9_isLost a p1 M = (x, M1) → Post x M1) : P_X9_isLost a p1 M Post := by
  have hF := cE_X9_isLost a p1 M
  unfold P_X9_isLost at H ⊢
  refine And.intro (fun c1 => ?_) (fun c1 => ?_)
  · replace H := H.1 c1
    replace hF := hF.trans (if_pos c1)
    exact K _ _ H hF
  · replace H := H.2 c1
    replace hF := hF.trans (if_neg c1)
    refine And.intro (fun c2 => ?_) (fun c2 => ?_)
    · replace H := H.1 c2
      replace hF := hF.trans (if_pos c2)
      exact K _ _ H hF
    · replace H := H.2 c2
      replace hF := hF.trans (if_neg c2)
      refine And.intro (fun c3 => ?_) (fun c3 => ?_)
      · replace H := H.1 c3
        replace hF := hF.trans (if_pos c3)
        exact K _ _ H hF
      · replace H := H.2 c3
        replace hF := hF.trans (if_neg c3)
        obtain ⟨a6, e_a6, H⟩ := H
        refine z_nn_of e_a6 ?_
        replace hF := hF.trans (q_ste (q_gd e_a6))
        refine And.intro H.1 ?_
        replace H := H.2
        refine And.intro (fun c4 => ?_) (fun c4 => ?_)
        · replace H := H.1 c4
          replace hF := hF.trans (if_pos c4)
          obtain ⟨a10, e_a10, H⟩ := H
          refine z_nn_of e_a10 ?_
          replace hF := hF.trans (q_ste (q_gd e_a10))
          refine And.intro H.1 ?_
          replace H := H.2
          refine And.intro (fun c5 => ?_) (fun c5 => ?_)
          · replace H := H.1 c5
            replace hF := hF.trans (if_pos c5)
            exact K _ _ H hF
          · replace H := H.2 c5
            replace hF := hF.trans (if_neg c5)
            exact K _ _ H hF
        · replace H := H.2 c4
          replace hF := hF.trans (if_neg c4)
          exact K _ _ H hF
set_option maxRecDepth 100000 in
noncomputable def cF_X9_acknowledge_64 (a : Nat) (x1 : Int32) (x2 : Int32) (x3 : Int32) (M : z_Mem) : ((Int32 × Int32 × Int32 × z_Mem) ⊕ z_Mem) := (q_st (x3 + 1) (fun (x_1 : Int32) => (.inl (x1, x2, x_1, M))))
set_option maxRecDepth 100000 in
theorem cE_X9_acknowledge_64 (a : Nat) (x1 : Int32) (x2 : Int32) (x3 : Int32) (M : z_Mem) : cF_X9_acknowledge_64 a x1 x2 x3 M = (q_st (x3 + 1) (fun (x_1 : Int32) => (.inl (x1, x2, x_1, M)))) := rfl
set_option maxRecDepth 100000 in
set_option maxHeartbeats 4000000 in
theorem cS_X9_acknowledge_64 {Q Post : z_Mem → Prop} {a : Nat} {x1 : Int32} {x2 : Int32} {x3 : Int32} {QJ6 PJ6 : Int32 → Int32 → Int32 → z_Mem → Prop} {M : z_Mem} (H : P_X9_acknowledge_64 a Q QJ6 x1 x2 x3 M) (K : ∀ M1, Q M1 → cF_X9_acknowledge_64 a x1 x2 x3 M = (.inr M1) → Post M1) (KJ6 : ∀ v0 v1 v2 M1, QJ6 v0 v1 v2 M1 → cF_X9_acknowledge_64 a x1 x2 x3 M = (.inl (v0, v1, v2, M1)) → PJ6 v0 v1 v2 M1) : P_X9_acknowledge_64 a Post PJ6 x1 x2 x3 M := by
  have hF := cE_X9_acknowledge_64 a x1 x2 x3 M
  unfold P_X9_acknowledge_64 at H ⊢
  intro x_1 e_x_1
  replace H := H x_1 e_x_1
  replace hF := hF.trans (q_ste e_x_1)
  exact KJ6 _ _ _ _ H hF
set_option maxRecDepth 100000 in
noncomputable def cF_X9_acknowledge_38 (a : Nat) (x1 : Int32) (x2 : Int32) (x3 : Int32) (M : z_Mem) : ((Int32 × Int32 × Int32 × z_Mem) ⊕ z_Mem) := (q_st (Option.getD (z_fr M 1159 a) 0) (fun (a3 : Nat) => (if ((z_ai M a3 (x3 : Int32).toNatClampNeg) = 0) then (q_st (Option.getD (z_fr M 1159 a) 0) (fun (a7 : Nat) => (q_st (z_sai M a7 (x3 : Int32).toNatClampNeg 1) (fun (M_9 : z_Mem) => (q_st (z_sfi M_9 1154 a ((z_fi M_9 1154 a) + 1)) (fun (M_11 : z_Mem) => (cF_X9_acknowledge_64 a x1 x2 x3 M_11))))))) else (cF_X9_acknowledge_64 a x1 x2 x3 M))))
set_option maxRecDepth 100000 in
theorem cE_X9_acknowledge_38 (a : Nat) (x1 : Int32) (x2 : Int32) (x3 : Int32) (M : z_Mem) : cF_X9_acknowledge_38 a x1 x2 x3 M = (q_st (Option.getD (z_fr M 1159 a) 0) (fun (a3 : Nat) => (if ((z_ai M a3 (x3 : Int32).toNatClampNeg) = 0) then (q_st (Option.getD (z_fr M 1159 a) 0) (fun (a7 : Nat) => (q_st (z_sai M a7 (x3 : Int32).toNatClampNeg 1) (fun (M_9 : z_Mem) => (q_st (z_sfi M_9 1154 a ((z_fi M_9 1154 a) + 1)) (fun (M_11 : z_Mem) => (cF_X9_acknowledge_64 a x1 x2 x3 M_11))))))) else (cF_X9_acknowledge_64 a x1 x2 x3 M)))) := rfl
set_option maxRecDepth 100000 in
set_option maxHeartbeats 4000000 in
theorem cS_X9_acknowledge_38 {Q Post : z_Mem → Prop} {a : Nat} {x1 : Int32} {x2 : Int32} {x3 : Int32} {QJ6 PJ6 : Int32 → Int32 → Int32 → z_Mem → Prop} {M : z_Mem} (H : P_X9_acknowledge_38 a Q QJ6 x1 x2 x3 M) (K : ∀ M1, Q M1 → cF_X9_acknowledge_38 a x1 x2 x3 M = (.inr M1) → Post M1) (KJ6 : ∀ v0 v1 v2 M1, QJ6 v0 v1 v2 M1 → cF_X9_acknowledge_38 a x1 x2 x3 M = (.inl (v0, v1, v2, M1)) → PJ6 v0 v1 v2 M1) : P_X9_acknowledge_38 a Post PJ6 x1 x2 x3 M := by
  have hF := cE_X9_acknowledge_38 a x1 x2 x3 M
  unfold P_X9_acknowledge_38 at H ⊢
  obtain ⟨a3, e_a3, H⟩ := H
  refine z_nn_of e_a3 ?_
  replace hF := hF.trans (q_ste (q_gd e_a3))
  refine And.intro H.1 ?_
  replace H := H.2
  refine And.intro (fun c1 => ?_) (fun c1 => ?_)
  · replace H := H.1 c1
    replace hF := hF.trans (if_pos c1)
    obtain ⟨a7, e_a7, H⟩ := H
    refine z_nn_of e_a7 ?_
    replace hF := hF.trans (q_ste (q_gd e_a7))
    refine And.intro H.1 ?_
    replace H := H.2
    intro M_9 e_M_9
    replace H := H M_9 e_M_9
    replace hF := hF.trans (q_ste e_M_9)
    intro M_11 e_M_11
    replace H := H M_11 e_M_11
    replace hF := hF.trans (q_ste e_M_11)
    exact cS_X9_acknowledge_64 H (fun M1 q u => K M1 q (hF.trans u)) (fun v0 v1 v2 M1 q u => KJ6 v0 v1 v2 M1 q (hF.trans u))
  · replace H := H.2 c1
    replace hF := hF.trans (if_neg c1)
    exact cS_X9_acknowledge_64 H (fun M1 q u => K M1 q (hF.trans u)) (fun v0 v1 v2 M1 q u => KJ6 v0 v1 v2 M1 q (hF.trans u))
set_option maxRecDepth 100000 in
noncomputable def cB_X9_acknowledge_6 (a : Nat) (x1 : Int32) (x2 : Int32) (x3 : Int32) (M : z_Mem) : (Int32 × Int32 × Int32 × z_Mem) ⊕ z_Mem := (if ((x1 + x2) ≤ x3) then (.inr M) else (if (200 ≤ x3) then (.inr M) else (q_st2 (cF_X9_isLost a x3 M) (fun (x_14 : Int32) (M_14 : z_Mem) => (if (x_14 = 0) then (cF_X9_acknowledge_38 a x1 x2 x3 M_14) else (q_st (z_sfi M_14 1155 a ((z_fi M_14 1155 a) - 1)) (fun (M_17 : z_Mem) => (cF_X9_acknowledge_38 a x1 x2 x3 M_17))))))))
set_option maxRecDepth 100000 in
noncomputable def cF_X9_acknowledge_6 (a : Nat) (x1 : Int32) (x2 : Int32) (x3 : Int32) (M : z_Mem) : z_Mem := q_lp (X := (Int32 × Int32 × Int32 × z_Mem)) (Y := z_Mem) M (fun t => cB_X9_acknowledge_6 a t.1 t.2.1 t.2.2.1 t.2.2.2) (x1, x2, x3, M)
set_option maxRecDepth 100000 in
theorem cUl_X9_acknowledge_6 {a : Nat} {x1 : Int32} {x2 : Int32} {x3 : Int32} {M : z_Mem} {y_x1 : Int32} {y_x2 : Int32} {y_x3 : Int32} {M1 : z_Mem} (h : cB_X9_acknowledge_6 a x1 x2 x3 M = .inl (y_x1, y_x2, y_x3, M1)) : cF_X9_acknowledge_6 a x1 x2 x3 M = cF_X9_acknowledge_6 a y_x1 y_x2 y_x3 M1 := q_lpl (step := fun t => cB_X9_acknowledge_6 a t.1 t.2.1 t.2.2.1 t.2.2.2) h
set_option maxRecDepth 100000 in
theorem cUr_X9_acknowledge_6 {a : Nat} {x1 : Int32} {x2 : Int32} {x3 : Int32} {M : z_Mem} {y : z_Mem} (h : cB_X9_acknowledge_6 a x1 x2 x3 M = .inr y) : cF_X9_acknowledge_6 a x1 x2 x3 M = y := q_lpr (step := fun t => cB_X9_acknowledge_6 a t.1 t.2.1 t.2.2.1 t.2.2.2) h
set_option maxRecDepth 100000 in
theorem cE_X9_acknowledge_6 (a : Nat) (x1 : Int32) (x2 : Int32) (x3 : Int32) (M : z_Mem) : cB_X9_acknowledge_6 a x1 x2 x3 M = (if ((x1 + x2) ≤ x3) then (.inr M) else (if (200 ≤ x3) then (.inr M) else (q_st2 (cF_X9_isLost a x3 M) (fun (x_14 : Int32) (M_14 : z_Mem) => (if (x_14 = 0) then (cF_X9_acknowledge_38 a x1 x2 x3 M_14) else (q_st (z_sfi M_14 1155 a ((z_fi M_14 1155 a) - 1)) (fun (M_17 : z_Mem) => (cF_X9_acknowledge_38 a x1 x2 x3 M_17)))))))) := rfl
set_option maxRecDepth 100000 in
set_option maxHeartbeats 4000000 in
theorem cS_X9_acknowledge_6 {Q Post : z_Mem → Prop} {a : Nat} : ∀ (m : Nat) {x1 : Int32} {x2 : Int32} {x3 : Int32} {M : z_Mem} (H : P_X9_acknowledge_6 a Q m x1 x2 x3 M) (K : ∀ M1, Q M1 → cF_X9_acknowledge_6 a x1 x2 x3 M = M1 → Post M1), P_X9_acknowledge_6 a Post m x1 x2 x3 M := by
  intro m
  induction m with
  | zero => intros; rename_i H _; exact False.elim H
  | succ m ih =>
    intro x1 x2 x3 M H K
    have hF := cE_X9_acknowledge_6 a x1 x2 x3 M
    unfold P_X9_acknowledge_6 at H ⊢
    refine And.intro (fun c1 => ?_) (fun c1 => ?_)
    · replace H := H.1 c1
      replace hF := hF.trans (if_pos c1)
      exact K _ H (cUr_X9_acknowledge_6 hF)
    · replace H := H.2 c1
      replace hF := hF.trans (if_neg c1)
      refine And.intro (fun c2 => ?_) (fun c2 => ?_)
      · replace H := H.1 c2
        replace hF := hF.trans (if_pos c2)
        exact K _ H (cUr_X9_acknowledge_6 hF)
      · replace H := H.2 c2
        replace hF := hF.trans (if_neg c2)
        refine cS_X9_isLost H (fun x_14 M_14 H u => ?_)
        replace hF := hF.trans (q_ste2 u)
        refine And.intro (fun c3 => ?_) (fun c3 => ?_)
        · replace H := H.1 c3
          replace hF := hF.trans (if_pos c3)
          exact cS_X9_acknowledge_38 H (fun M1 q u => K M1 q (cUr_X9_acknowledge_6 (hF.trans u))) (fun v0 v1 v2 M1 q u => ih q (fun M1 q u2 => K M1 q ((cUl_X9_acknowledge_6 (hF.trans u)).trans u2))) 
        · replace H := H.2 c3
          replace hF := hF.trans (if_neg c3)
          intro M_17 e_M_17
          replace H := H M_17 e_M_17
          replace hF := hF.trans (q_ste e_M_17)
          exact cS_X9_acknowledge_38 H (fun M1 q u => K M1 q (cUr_X9_acknowledge_6 (hF.trans u))) (fun v0 v1 v2 M1 q u => ih q (fun M1 q u2 => K M1 q ((cUl_X9_acknowledge_6 (hF.trans u)).trans u2))) 
set_option maxRecDepth 100000 in
noncomputable def cF_X9_acknowledge (a : Nat) (p1 : Int32) (p2 : Int32) (M : z_Mem) : z_Mem := (q_st ((if (0 < p1) then p1 else 0) : Int32) (fun (x_18 : Int32) => (cF_X9_acknowledge_6 a p1 p2 x_18 M)))
set_option maxRecDepth 100000 in
theorem cE_X9_acknowledge (a : Nat) (p1 : Int32) (p2 : Int32) (M : z_Mem) : cF_X9_acknowledge a p1 p2 M = (q_st ((if (0 < p1) then p1 else 0) : Int32) (fun (x_18 : Int32) => (cF_X9_acknowledge_6 a p1 p2 x_18 M))) := rfl
set_option maxRecDepth 100000 in
set_option maxHeartbeats 4000000 in
theorem cS_X9_acknowledge {Q Post : z_Mem → Prop} {a : Nat} {p1 : Int32} {p2 : Int32} {M : z_Mem} (H : P_X9_acknowledge a p1 p2 M Q) (K : ∀ M1, Q M1 → cF_X9_acknowledge a p1 p2 M = M1 → Post M1) : P_X9_acknowledge a p1 p2 M Post := by
  have hF := cE_X9_acknowledge a p1 p2 M
  unfold P_X9_acknowledge at H ⊢
  intro x_18 e_x_18
  replace H := H x_18 e_x_18
  replace hF := hF.trans (q_ste e_x_18)
  obtain ⟨m, H⟩ := H
  refine ⟨m, ?_⟩
  exact cS_X9_acknowledge_6 m H (fun M1 q u => K M1 q (hF.trans u))
set_option maxRecDepth 100000 in
noncomputable def cF_X9_land_48 (a : Nat) (x1 : Int32) (x2 : Int32) (x3 : Int32) (M : z_Mem) : ((Int32 × Int32 × Int32 × z_Mem) ⊕ z_Mem) := (q_st (x3 + 1) (fun (x_1 : Int32) => (.inl (x1, x2, x_1, M))))
set_option maxRecDepth 100000 in
theorem cE_X9_land_48 (a : Nat) (x1 : Int32) (x2 : Int32) (x3 : Int32) (M : z_Mem) : cF_X9_land_48 a x1 x2 x3 M = (q_st (x3 + 1) (fun (x_1 : Int32) => (.inl (x1, x2, x_1, M)))) := rfl
set_option maxRecDepth 100000 in
set_option maxHeartbeats 4000000 in
theorem cS_X9_land_48 {Q Post : z_Mem → Prop} {a : Nat} {x1 : Int32} {x2 : Int32} {x3 : Int32} {QJ6 PJ6 : Int32 → Int32 → Int32 → z_Mem → Prop} {M : z_Mem} (H : P_X9_land_48 a Q QJ6 x1 x2 x3 M) (K : ∀ M1, Q M1 → cF_X9_land_48 a x1 x2 x3 M = (.inr M1) → Post M1) (KJ6 : ∀ v0 v1 v2 M1, QJ6 v0 v1 v2 M1 → cF_X9_land_48 a x1 x2 x3 M = (.inl (v0, v1, v2, M1)) → PJ6 v0 v1 v2 M1) : P_X9_land_48 a Post PJ6 x1 x2 x3 M := by
  have hF := cE_X9_land_48 a x1 x2 x3 M
  unfold P_X9_land_48 at H ⊢
  intro x_1 e_x_1
  replace H := H x_1 e_x_1
  replace hF := hF.trans (q_ste e_x_1)
  exact KJ6 _ _ _ _ H hF
set_option maxRecDepth 100000 in
noncomputable def cB_X9_land_6 (a : Nat) (x1 : Int32) (x2 : Int32) (x3 : Int32) (M : z_Mem) : (Int32 × Int32 × Int32 × z_Mem) ⊕ z_Mem := (if ((x1 + x2) ≤ x3) then (.inr M) else (if (200 ≤ x3) then (.inr M) else (q_st (Option.getD (z_fr M 1160 a) 0) (fun (a5 : Nat) => (q_st (z_sai M a5 (x3 : Int32).toNatClampNeg ((z_ai M a5 (x3 : Int32).toNatClampNeg) - 1)) (fun (M_8 : z_Mem) => (q_st2 (cF_X9_isLost a x3 M_8) (fun (x_9 : Int32) (M_9 : z_Mem) => (if (x_9 = 0) then (cF_X9_land_48 a x1 x2 x3 M_9) else (q_st (z_sfi M_9 1155 a ((z_fi M_9 1155 a) + 1)) (fun (M_12 : z_Mem) => (cF_X9_land_48 a x1 x2 x3 M_12))))))))))))
set_option maxRecDepth 100000 in
noncomputable def cF_X9_land_6 (a : Nat) (x1 : Int32) (x2 : Int32) (x3 : Int32) (M : z_Mem) : z_Mem := q_lp (X := (Int32 × Int32 × Int32 × z_Mem)) (Y := z_Mem) M (fun t => cB_X9_land_6 a t.1 t.2.1 t.2.2.1 t.2.2.2) (x1, x2, x3, M)
set_option maxRecDepth 100000 in
theorem cUl_X9_land_6 {a : Nat} {x1 : Int32} {x2 : Int32} {x3 : Int32} {M : z_Mem} {y_x1 : Int32} {y_x2 : Int32} {y_x3 : Int32} {M1 : z_Mem} (h : cB_X9_land_6 a x1 x2 x3 M = .inl (y_x1, y_x2, y_x3, M1)) : cF_X9_land_6 a x1 x2 x3 M = cF_X9_land_6 a y_x1 y_x2 y_x3 M1 := q_lpl (step := fun t => cB_X9_land_6 a t.1 t.2.1 t.2.2.1 t.2.2.2) h
set_option maxRecDepth 100000 in
theorem cUr_X9_land_6 {a : Nat} {x1 : Int32} {x2 : Int32} {x3 : Int32} {M : z_Mem} {y : z_Mem} (h : cB_X9_land_6 a x1 x2 x3 M = .inr y) : cF_X9_land_6 a x1 x2 x3 M = y := q_lpr (step := fun t => cB_X9_land_6 a t.1 t.2.1 t.2.2.1 t.2.2.2) h
set_option maxRecDepth 100000 in
theorem cE_X9_land_6 (a : Nat) (x1 : Int32) (x2 : Int32) (x3 : Int32) (M : z_Mem) : cB_X9_land_6 a x1 x2 x3 M = (if ((x1 + x2) ≤ x3) then (.inr M) else (if (200 ≤ x3) then (.inr M) else (q_st (Option.getD (z_fr M 1160 a) 0) (fun (a5 : Nat) => (q_st (z_sai M a5 (x3 : Int32).toNatClampNeg ((z_ai M a5 (x3 : Int32).toNatClampNeg) - 1)) (fun (M_8 : z_Mem) => (q_st2 (cF_X9_isLost a x3 M_8) (fun (x_9 : Int32) (M_9 : z_Mem) => (if (x_9 = 0) then (cF_X9_land_48 a x1 x2 x3 M_9) else (q_st (z_sfi M_9 1155 a ((z_fi M_9 1155 a) + 1)) (fun (M_12 : z_Mem) => (cF_X9_land_48 a x1 x2 x3 M_12)))))))))))) := rfl
set_option maxRecDepth 100000 in
set_option maxHeartbeats 4000000 in
theorem cS_X9_land_6 {Q Post : z_Mem → Prop} {a : Nat} : ∀ (m : Nat) {x1 : Int32} {x2 : Int32} {x3 : Int32} {M : z_Mem} (H : P_X9_land_6 a Q m x1 x2 x3 M) (K : ∀ M1, Q M1 → cF_X9_land_6 a x1 x2 x3 M = M1 → Post M1), P_X9_land_6 a Post m x1 x2 x3 M := by
  intro m
  induction m with
  | zero => intros; rename_i H _; exact False.elim H
  | succ m ih =>
    intro x1 x2 x3 M H K
    have hF := cE_X9_land_6 a x1 x2 x3 M
    unfold P_X9_land_6 at H ⊢
    refine And.intro (fun c1 => ?_) (fun c1 => ?_)
    · replace H := H.1 c1
      replace hF := hF.trans (if_pos c1)
      exact K _ H (cUr_X9_land_6 hF)
    · replace H := H.2 c1
      replace hF := hF.trans (if_neg c1)
      refine And.intro (fun c2 => ?_) (fun c2 => ?_)
      · replace H := H.1 c2
        replace hF := hF.trans (if_pos c2)
        exact K _ H (cUr_X9_land_6 hF)
      · replace H := H.2 c2
        replace hF := hF.trans (if_neg c2)
        obtain ⟨a5, e_a5, H⟩ := H
        refine z_nn_of e_a5 ?_
        replace hF := hF.trans (q_ste (q_gd e_a5))
        refine And.intro H.1 ?_
        replace H := H.2
        refine And.intro H.1 ?_
        replace H := H.2
        intro M_8 e_M_8
        replace H := H M_8 e_M_8
        replace hF := hF.trans (q_ste e_M_8)
        refine cS_X9_isLost H (fun x_9 M_9 H u => ?_)
        replace hF := hF.trans (q_ste2 u)
        refine And.intro (fun c3 => ?_) (fun c3 => ?_)
        · replace H := H.1 c3
          replace hF := hF.trans (if_pos c3)
          exact cS_X9_land_48 H (fun M1 q u => K M1 q (cUr_X9_land_6 (hF.trans u))) (fun v0 v1 v2 M1 q u => ih q (fun M1 q u2 => K M1 q ((cUl_X9_land_6 (hF.trans u)).trans u2))) 
        · replace H := H.2 c3
          replace hF := hF.trans (if_neg c3)
          intro M_12 e_M_12
          replace H := H M_12 e_M_12
          replace hF := hF.trans (q_ste e_M_12)
          exact cS_X9_land_48 H (fun M1 q u => K M1 q (cUr_X9_land_6 (hF.trans u))) (fun v0 v1 v2 M1 q u => ih q (fun M1 q u2 => K M1 q ((cUl_X9_land_6 (hF.trans u)).trans u2))) 
set_option maxRecDepth 100000 in
noncomputable def cF_X9_land (a : Nat) (p1 : Int32) (p2 : Int32) (M : z_Mem) : z_Mem := (q_st ((if (0 < p1) then p1 else 0) : Int32) (fun (x_13 : Int32) => (cF_X9_land_6 a p1 p2 x_13 M)))
set_option maxRecDepth 100000 in
theorem cE_X9_land (a : Nat) (p1 : Int32) (p2 : Int32) (M : z_Mem) : cF_X9_land a p1 p2 M = (q_st ((if (0 < p1) then p1 else 0) : Int32) (fun (x_13 : Int32) => (cF_X9_land_6 a p1 p2 x_13 M))) := rfl
set_option maxRecDepth 100000 in
set_option maxHeartbeats 4000000 in
theorem cS_X9_land {Q Post : z_Mem → Prop} {a : Nat} {p1 : Int32} {p2 : Int32} {M : z_Mem} (H : P_X9_land a p1 p2 M Q) (K : ∀ M1, Q M1 → cF_X9_land a p1 p2 M = M1 → Post M1) : P_X9_land a p1 p2 M Post := by
  have hF := cE_X9_land a p1 p2 M
  unfold P_X9_land at H ⊢
  intro x_13 e_x_13
  replace H := H x_13 e_x_13
  replace hF := hF.trans (q_ste e_x_13)
  obtain ⟨m, H⟩ := H
  refine ⟨m, ?_⟩
  exact cS_X9_land_6 m H (fun M1 q u => K M1 q (hF.trans u))
set_option maxRecDepth 100000 in
noncomputable def cF_X1_leaveFlight_62 (a : Nat) (x1 : Option Nat) (M : z_Mem) : z_Mem := (q_st (Option.getD x1 0) (fun (a2 : Nat) => (q_st (Option.getD (z_fr M 129 a) 0) (fun (a4 : Nat) => (q_st (Option.getD (z_ar M a4 ((z_fi M 771 a2) : Int32).toNatClampNeg) 0) (fun (a9 : Nat) => (q_st (cF_X9_land a9 (z_fi M 772 a2) (z_fi M 773 a2) M) (fun (M_8 : z_Mem) => M_8))))))))
set_option maxRecDepth 100000 in
theorem cE_X1_leaveFlight_62 (a : Nat) (x1 : Option Nat) (M : z_Mem) : cF_X1_leaveFlight_62 a x1 M = (q_st (Option.getD x1 0) (fun (a2 : Nat) => (q_st (Option.getD (z_fr M 129 a) 0) (fun (a4 : Nat) => (q_st (Option.getD (z_ar M a4 ((z_fi M 771 a2) : Int32).toNatClampNeg) 0) (fun (a9 : Nat) => (q_st (cF_X9_land a9 (z_fi M 772 a2) (z_fi M 773 a2) M) (fun (M_8 : z_Mem) => M_8)))))))) := rfl
set_option maxRecDepth 100000 in
set_option maxHeartbeats 4000000 in
theorem cS_X1_leaveFlight_62 {Q Post : z_Mem → Prop} {a : Nat} {x1 : Option Nat} {M : z_Mem} (H : P_X1_leaveFlight_62 a Q x1 M) (K : ∀ M1, Q M1 → cF_X1_leaveFlight_62 a x1 M = M1 → Post M1) : P_X1_leaveFlight_62 a Post x1 M := by
  have hF := cE_X1_leaveFlight_62 a x1 M
  unfold P_X1_leaveFlight_62 at H ⊢
  obtain ⟨a2, e_a2, H⟩ := H
  refine z_nn_of e_a2 ?_
  replace hF := hF.trans (q_ste (q_gd e_a2))
  obtain ⟨a4, e_a4, H⟩ := H
  refine z_nn_of e_a4 ?_
  replace hF := hF.trans (q_ste (q_gd e_a4))
  refine And.intro H.1 ?_
  replace H := H.2
  obtain ⟨a9, e_a9, H⟩ := H
  refine z_nn_of e_a9 ?_
  replace hF := hF.trans (q_ste (q_gd e_a9))
  refine cS_X9_land H (fun M_8 H u => ?_)
  replace hF := hF.trans (q_ste u.symm)
  exact K _ H hF
