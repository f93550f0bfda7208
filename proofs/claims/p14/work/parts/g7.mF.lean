/-! ===== THE CLASS'S FACE, and the law's calls of it: what every write keeps, every call keeps ===== -/
set_option maxRecDepth 100000 in
set_option maxHeartbeats 4000000 in
theorem mS_X11_requirePath {R : z_Mem → Prop} (hR : y_mR R) (hX : ∀ M k w, R M → R (z_exc M k w)) (hZ : ∀ M a j v, R M → R (z_sal M a j v)) {Q Post : z_Mem → Prop} {QX PX : String → z_Mem → Prop} {p1 : Int32} {M : z_Mem} (H : P_X11_requirePath p1 M Q QX) (rM : R M) (K : ∀ M1, Q M1 → R M1 → Post M1) (KX : ∀ E M1, QX E M1 → R M1 → PX E M1) : P_X11_requirePath p1 M Post PX := by
  unfold P_X11_requirePath at H ⊢
  refine And.intro (fun c1 => ?_) (fun c1 => ?_)
  · replace H := H.1 c1
    refine And.intro H.1 (fun k w hk hw => KX _ _ (H.2 k w hk hw) (hX _ _ _ rM))
  · replace H := H.2 c1
    refine And.intro (fun c2 => ?_) (fun c2 => ?_)
    · replace H := H.1 c2
      exact K _ H rM
    · replace H := H.2 c2
      refine And.intro H.1 (fun k w hk hw => KX _ _ (H.2 k w hk hw) (hX _ _ _ rM))
set_option maxRecDepth 100000 in
set_option maxHeartbeats 4000000 in
theorem mS_X11_requireRange {R : z_Mem → Prop} (hR : y_mR R) (hX : ∀ M k w, R M → R (z_exc M k w)) (hZ : ∀ M a j v, R M → R (z_sal M a j v)) {Q Post : z_Mem → Prop} {QX PX : String → z_Mem → Prop} {p1 : Int32} {p2 : Int32} {p3 : Int32} {M : z_Mem} (H : P_X11_requireRange p1 p2 p3 M Q QX) (rM : R M) (K : ∀ M1, Q M1 → R M1 → Post M1) (KX : ∀ E M1, QX E M1 → R M1 → PX E M1) : P_X11_requireRange p1 p2 p3 M Post PX := by
  unfold P_X11_requireRange at H ⊢
  refine And.intro (fun c1 => ?_) (fun c1 => ?_)
  · replace H := H.1 c1
    refine And.intro H.1 (fun k w hk hw => KX _ _ (H.2 k w hk hw) (hX _ _ _ rM))
  · replace H := H.2 c1
    refine And.intro (fun c2 => ?_) (fun c2 => ?_)
    · replace H := H.1 c2
      exact K _ H rM
    · replace H := H.2 c2
      refine And.intro H.1 (fun k w hk hw => KX _ _ (H.2 k w hk hw) (hX _ _ _ rM))
set_option maxRecDepth 100000 in
set_option maxHeartbeats 4000000 in
theorem mS_X11_requireStream {R : z_Mem → Prop} (hR : y_mR R) (hX : ∀ M k w, R M → R (z_exc M k w)) (hZ : ∀ M a j v, R M → R (z_sal M a j v)) {Q Post : z_Mem → Prop} {QX PX : String → z_Mem → Prop} {p1 : Int32} {M : z_Mem} (H : P_X11_requireStream p1 M Q QX) (rM : R M) (K : ∀ M1, Q M1 → R M1 → Post M1) (KX : ∀ E M1, QX E M1 → R M1 → PX E M1) : P_X11_requireStream p1 M Post PX := by
  unfold P_X11_requireStream at H ⊢
  refine And.intro (fun c1 => ?_) (fun c1 => ?_)
  · replace H := H.1 c1
    refine And.intro H.1 (fun k w hk hw => KX _ _ (H.2 k w hk hw) (hX _ _ _ rM))
  · replace H := H.2 c1
    refine And.intro (fun c2 => ?_) (fun c2 => ?_)
    · replace H := H.1 c2
      exact K _ H rM
    · replace H := H.2 c2
      refine And.intro H.1 (fun k w hk hw => KX _ _ (H.2 k w hk hw) (hX _ _ _ rM))
set_option maxRecDepth 100000 in
set_option maxHeartbeats 4000000 in
theorem mS_X11_requireState {R : z_Mem → Prop} (hR : y_mR R) (hX : ∀ M k w, R M → R (z_exc M k w)) (hZ : ∀ M a j v, R M → R (z_sal M a j v)) {Q Post : z_Mem → Prop} {QX PX : String → z_Mem → Prop} {p1 : Int32} {M : z_Mem} (H : P_X11_requireState p1 M Q QX) (rM : R M) (K : ∀ M1, Q M1 → R M1 → Post M1) (KX : ∀ E M1, QX E M1 → R M1 → PX E M1) : P_X11_requireState p1 M Post PX := by
  unfold P_X11_requireState at H ⊢
  refine And.intro (fun c1 => ?_) (fun c1 => ?_)
  · replace H := H.1 c1
    refine And.intro H.1 (fun k w hk hw => KX _ _ (H.2 k w hk hw) (hX _ _ _ rM))
  · replace H := H.2 c1
    exact K _ H rM
set_option maxRecDepth 100000 in
set_option maxHeartbeats 4000000 in
theorem mS_X11_setPath {R : z_Mem → Prop} (hR : y_mR R) (hX : ∀ M k w, R M → R (z_exc M k w)) (hZ : ∀ M a j v, R M → R (z_sal M a j v)) {Q Post : z_Mem → Prop} {a : Nat} {QX PX : String → z_Mem → Prop} {p1 : Int32} {p2 : Int32} {p3 : Int32} {p4 : Int32} {p5 : Int32} {M : z_Mem} (H : P_X11_setPath a p1 p2 p3 p4 p5 M Q QX) (rM : R M) (K : ∀ M1, Q M1 → R M1 → Post M1) (KX : ∀ E M1, QX E M1 → R M1 → PX E M1) : P_X11_setPath a p1 p2 p3 p4 p5 M Post PX := by
  unfold P_X11_setPath at H ⊢
  refine mS_X11_requirePath hR hX hZ H rM (fun M_1 H rM_1 => ?_) KX
  refine mS_X11_requireRange hR hX hZ H rM_1 (fun M_2 H rM_2 => ?_) KX
  refine mS_X11_requireRange hR hX hZ H rM_2 (fun M_3 H rM_3 => ?_) KX
  refine mS_X11_requireRange hR hX hZ H rM_3 (fun M_4 H rM_4 => ?_) KX
  refine mS_X11_requireRange hR hX hZ H rM_4 (fun M_5 H rM_5 => ?_) KX
  obtain ⟨a8, e_a8, H⟩ := H
  refine z_nn_of e_a8 ?_
  refine mS_X5_laneOf hR H rM_5 (fun x_7 M_7 H rM_7 => ?_)
  obtain ⟨a9, e_a9, H⟩ := H
  refine z_nn_of e_a9 ?_
  intro M_10 e_M_10
  replace H := H M_10 e_M_10
  have rM_10 : R M_10 := by rw [e_M_10]; exact (hR.sfi (by decide) rM_7)
  intro M_11 e_M_11
  replace H := H M_11 e_M_11
  have rM_11 : R M_11 := by rw [e_M_11]; exact (hR.sfi (by decide) rM_10)
  intro M_12 e_M_12
  replace H := H M_12 e_M_12
  have rM_12 : R M_12 := by rw [e_M_12]; exact (hR.sfi (by decide) rM_11)
  intro M_13 e_M_13
  replace H := H M_13 e_M_13
  have rM_13 : R M_13 := by rw [e_M_13]; exact (hR.sfi (by decide) rM_12)
  exact K _ H rM_13
set_option maxRecDepth 100000 in
set_option maxHeartbeats 4000000 in
theorem mS_X11_setUp {R : z_Mem → Prop} (hR : y_mR R) (hX : ∀ M k w, R M → R (z_exc M k w)) (hZ : ∀ M a j v, R M → R (z_sal M a j v)) {Q Post : Int32 → z_Mem → Prop} {a : Nat} {QX PX : String → z_Mem → Prop} {p1 : Int32} {p2 : Int32} {M : z_Mem} (H : P_X11_setUp a p1 p2 M Q QX) (rM : R M) (K : ∀ x M1, Q x M1 → R M1 → Post x M1) (KX : ∀ E M1, QX E M1 → R M1 → PX E M1) : P_X11_setUp a p1 p2 M Post PX := by
  unfold P_X11_setUp at H ⊢
  refine mS_X11_requirePath hR hX hZ H rM (fun M_1 H rM_1 => ?_) KX
  obtain ⟨a4, e_a4, H⟩ := H
  refine z_nn_of e_a4 ?_
  refine mS_X5_laneOf hR H rM_1 (fun x_3 M_3 H rM_3 => ?_)
  obtain ⟨a5, e_a5, H⟩ := H
  refine z_nn_of e_a5 ?_
  intro x_7 e_x_7
  replace H := H x_7 e_x_7
  intro M_8 e_M_8
  replace H := H M_8 e_M_8
  have rM_8 : R M_8 := by rw [e_M_8]; exact (hR.sfi (by decide) rM_3)
  exact K _ _ H rM_8
set_option maxRecDepth 100000 in
set_option maxHeartbeats 4000000 in
theorem mS_X11_lose {R : z_Mem → Prop} (hR : y_mR R) (hX : ∀ M k w, R M → R (z_exc M k w)) (hZ : ∀ M a j v, R M → R (z_sal M a j v)) {Q Post : z_Mem → Prop} {a : Nat} {QX PX : String → z_Mem → Prop} {p1 : Int32} {p2 : Int32} {p3 : Int32} {M : z_Mem} (H : P_X11_lose a p1 p2 p3 M Q QX) (rM : R M) (K : ∀ M1, Q M1 → R M1 → Post M1) (KX : ∀ E M1, QX E M1 → R M1 → PX E M1) : P_X11_lose a p1 p2 p3 M Post PX := by
  unfold P_X11_lose at H ⊢
  refine mS_X11_requirePath hR hX hZ H rM (fun M_1 H rM_1 => ?_) KX
  refine mS_X11_requireRange hR hX hZ H rM_1 (fun M_2 H rM_2 => ?_) KX
  obtain ⟨a5, e_a5, H⟩ := H
  refine z_nn_of e_a5 ?_
  refine mS_X5_laneOf hR H rM_2 (fun x_4 M_4 H rM_4 => ?_)
  refine And.intro (fun c1 => ?_) (fun c1 => ?_)
  · replace H := H.1 c1
    obtain ⟨a7, e_a7, H⟩ := H
    refine z_nn_of e_a7 ?_
    intro M_8 e_M_8
    replace H := H M_8 e_M_8
    have rM_8 : R M_8 := by rw [e_M_8]; exact (hR.sfi (by decide) rM_4)
    exact K _ H rM_8
  · replace H := H.2 c1
    obtain ⟨a9, e_a9, H⟩ := H
    refine z_nn_of e_a9 ?_
    intro M_10 e_M_10
    replace H := H M_10 e_M_10
    have rM_10 : R M_10 := by rw [e_M_10]; exact (hR.sfi (by decide) rM_4)
    exact K _ H rM_10
set_option maxRecDepth 100000 in
set_option maxHeartbeats 4000000 in
theorem mS_X11_late {R : z_Mem → Prop} (hR : y_mR R) (hX : ∀ M k w, R M → R (z_exc M k w)) (hZ : ∀ M a j v, R M → R (z_sal M a j v)) {Q Post : z_Mem → Prop} {a : Nat} {QX PX : String → z_Mem → Prop} {p1 : Int32} {p2 : Int32} {p3 : Int32} {M : z_Mem} (H : P_X11_late a p1 p2 p3 M Q QX) (rM : R M) (K : ∀ M1, Q M1 → R M1 → Post M1) (KX : ∀ E M1, QX E M1 → R M1 → PX E M1) : P_X11_late a p1 p2 p3 M Post PX := by
  unfold P_X11_late at H ⊢
  refine mS_X11_requirePath hR hX hZ H rM (fun M_1 H rM_1 => ?_) KX
  refine mS_X11_requireRange hR hX hZ H rM_1 (fun M_2 H rM_2 => ?_) KX
  refine mS_X11_requireRange hR hX hZ H rM_2 (fun M_3 H rM_3 => ?_) KX
  obtain ⟨a6, e_a6, H⟩ := H
  refine z_nn_of e_a6 ?_
  refine mS_X5_laneOf hR H rM_3 (fun x_5 M_5 H rM_5 => ?_)
  obtain ⟨a7, e_a7, H⟩ := H
  refine z_nn_of e_a7 ?_
  intro M_8 e_M_8
  replace H := H M_8 e_M_8
  have rM_8 : R M_8 := by rw [e_M_8]; exact (hR.sfi (by decide) rM_5)
  intro M_9 e_M_9
  replace H := H M_9 e_M_9
  have rM_9 : R M_9 := by rw [e_M_9]; exact (hR.sfi (by decide) rM_8)
  exact K _ H rM_9
set_option maxRecDepth 100000 in
set_option maxHeartbeats 4000000 in
theorem mS_X11_foreign {R : z_Mem → Prop} (hR : y_mR R) (hX : ∀ M k w, R M → R (z_exc M k w)) (hZ : ∀ M a j v, R M → R (z_sal M a j v)) {Q Post : Int32 → z_Mem → Prop} {a : Nat} {QX PX : String → z_Mem → Prop} {p1 : Int32} {p2 : Int32} {M : z_Mem} (H : P_X11_foreign a p1 p2 M Q QX) (rM : R M) (K : ∀ x M1, Q x M1 → R M1 → Post x M1) (KX : ∀ E M1, QX E M1 → R M1 → PX E M1) : P_X11_foreign a p1 p2 M Post PX := by
  unfold P_X11_foreign at H ⊢
  refine mS_X11_requirePath hR hX hZ H rM (fun M_1 H rM_1 => ?_) KX
  refine mS_X11_requireRange hR hX hZ H rM_1 (fun M_2 H rM_2 => ?_) KX
  obtain ⟨a5, e_a5, H⟩ := H
  refine z_nn_of e_a5 ?_
  refine mS_X5_putForeign hR H rM_2 (fun x_4 M_4 H rM_4 => ?_)
  exact K _ _ H rM_4
set_option maxRecDepth 100000 in
set_option maxHeartbeats 4000000 in
theorem mS_X11_read {R : z_Mem → Prop} (hR : y_mR R) (hX : ∀ M k w, R M → R (z_exc M k w)) (hZ : ∀ M a j v, R M → R (z_sal M a j v)) {Q Post : Int32 → z_Mem → Prop} {a : Nat} {QX PX : String → z_Mem → Prop} {p1 : Int32} {p2 : Int32} {M : z_Mem} (H : P_X11_read a p1 p2 M Q QX) (rM : R M) (K : ∀ x M1, Q x M1 → R M1 → Post x M1) (KX : ∀ E M1, QX E M1 → R M1 → PX E M1) : P_X11_read a p1 p2 M Post PX := by
  unfold P_X11_read at H ⊢
  refine mS_X11_requireStream hR hX hZ H rM (fun M_1 H rM_1 => ?_) KX
  refine mS_X11_requireRange hR hX hZ H rM_1 (fun M_2 H rM_2 => ?_) KX
  obtain ⟨a5, e_a5, H⟩ := H
  refine z_nn_of e_a5 ?_
  refine And.intro H.1 ?_
  replace H := H.2
  obtain ⟨a8, e_a8, H⟩ := H
  refine z_nn_of e_a8 ?_
  refine mS_X8_readBytes hR H rM_2 (fun x_7 M_7 H rM_7 => ?_)
  exact K _ _ H rM_7
set_option maxRecDepth 100000 in
set_option maxHeartbeats 4000000 in
theorem mS_X11_connect {R : z_Mem → Prop} (hR : y_mR R) (hX : ∀ M k w, R M → R (z_exc M k w)) (hZ : ∀ M a j v, R M → R (z_sal M a j v)) {Q Post : z_Mem → Prop} {a : Nat} {QX PX : String → z_Mem → Prop} {p1 : Int32} {M : z_Mem} (H : P_X11_connect a p1 M Q QX) (rM : R M) (K : ∀ M1, Q M1 → R M1 → Post M1) (KX : ∀ E M1, QX E M1 → R M1 → PX E M1) : P_X11_connect a p1 M Post PX := by
  unfold P_X11_connect at H ⊢
  refine mS_X11_requireRange hR hX hZ H rM (fun M_1 H rM_1 => ?_) KX
  obtain ⟨a3, e_a3, H⟩ := H
  refine z_nn_of e_a3 ?_
  refine And.intro (fun c1 => ?_) (fun c1 => ?_)
  · replace H := H.1 c1
    refine mS_X11_requireState hR hX hZ H rM_1 (fun M_10 H rM_10 => ?_) KX
    obtain ⟨a13, e_a13, H⟩ := H
    refine z_nn_of e_a13 ?_
    refine mS_X1_beginHello hR H rM_10 (fun M_12 H rM_12 => ?_)
    exact K _ H rM_12
  · replace H := H.2 c1
    refine mS_X11_requireState hR hX hZ H rM_1 (fun M_6 H rM_6 => ?_) KX
    obtain ⟨a9, e_a9, H⟩ := H
    refine z_nn_of e_a9 ?_
    refine mS_X1_beginHello hR H rM_6 (fun M_8 H rM_8 => ?_)
    exact K _ H rM_8
set_option maxRecDepth 100000 in
set_option maxHeartbeats 4000000 in
theorem mS_X11_write {R : z_Mem → Prop} (hR : y_mR R) (hX : ∀ M k w, R M → R (z_exc M k w)) (hZ : ∀ M a j v, R M → R (z_sal M a j v)) {Q Post : Int32 → z_Mem → Prop} {a : Nat} {QX PX : String → z_Mem → Prop} {p1 : Int32} {p2 : Int32} {M : z_Mem} (H : P_X11_write a p1 p2 M Q QX) (rM : R M) (K : ∀ x M1, Q x M1 → R M1 → Post x M1) (KX : ∀ E M1, QX E M1 → R M1 → PX E M1) : P_X11_write a p1 p2 M Post PX := by
  unfold P_X11_write at H ⊢
  refine mS_X11_requireStream hR hX hZ H rM (fun M_1 H rM_1 => ?_) KX
  refine mS_X11_requireRange hR hX hZ H rM_1 (fun M_2 H rM_2 => ?_) KX
  obtain ⟨a4, e_a4, H⟩ := H
  refine z_nn_of e_a4 ?_
  refine And.intro H.1 ?_
  replace H := H.2
  obtain ⟨a6, e_a6, H⟩ := H
  refine z_nn_of e_a6 ?_
  refine And.intro (fun c1 => ?_) (fun c1 => ?_)
  · replace H := H.1 c1
    refine mS_X11_requireState hR hX hZ H rM_2 (fun M_9 H rM_9 => ?_) KX
    intro M_11 e_M_11
    replace H := H M_11 e_M_11
    have rM_11 : R M_11 := by rw [e_M_11]; exact (hR.sfi (by decide) rM_9)
    exact K _ _ H rM_11
  · replace H := H.2 c1
    refine mS_X11_requireState hR hX hZ H rM_2 (fun M_13 H rM_13 => ?_) KX
    intro M_15 e_M_15
    replace H := H M_15 e_M_15
    have rM_15 : R M_15 := by rw [e_M_15]; exact (hR.sfi (by decide) rM_13)
    exact K _ _ H rM_15
set_option maxRecDepth 100000 in
set_option maxHeartbeats 4000000 in
theorem mS_X11_setWay {R : z_Mem → Prop} (hR : y_mR R) (hX : ∀ M k w, R M → R (z_exc M k w)) (hZ : ∀ M a j v, R M → R (z_sal M a j v)) {Q Post : Int32 → z_Mem → Prop} {a : Nat} {QX PX : String → z_Mem → Prop} {p1 : Int32} {p2 : Int32} {M : z_Mem} (H : P_X11_setWay a p1 p2 M Q QX) (rM : R M) (K : ∀ x M1, Q x M1 → R M1 → Post x M1) (KX : ∀ E M1, QX E M1 → R M1 → PX E M1) : P_X11_setWay a p1 p2 M Post PX := by
  unfold P_X11_setWay at H ⊢
  refine mS_X11_requirePath hR hX hZ H rM (fun M_1 H rM_1 => ?_) KX
  refine mS_X11_requireRange hR hX hZ H rM_1 (fun M_2 H rM_2 => ?_) KX
  obtain ⟨a5, e_a5, H⟩ := H
  refine z_nn_of e_a5 ?_
  refine mS_X1_routeOf hR H rM_2 (fun x_4 M_4 H rM_4 => ?_)
  obtain ⟨a6, e_a6, H⟩ := H
  refine z_nn_of e_a6 ?_
  obtain ⟨a8, e_a8, H⟩ := H
  refine z_nn_of e_a8 ?_
  intro x_10 e_x_10
  replace H := H x_10 e_x_10
  intro M_11 e_M_11
  replace H := H M_11 e_M_11
  have rM_11 : R M_11 := by rw [e_M_11]; exact (hR.sfi (by decide) rM_4)
  exact K _ _ H rM_11
set_option maxRecDepth 100000 in
set_option maxHeartbeats 4000000 in
theorem mS_X11_check {R : z_Mem → Prop} (hR : y_mR R) (hX : ∀ M k w, R M → R (z_exc M k w)) (hZ : ∀ M a j v, R M → R (z_sal M a j v)) {Q Post : z_Mem → Prop} {a : Nat} {QX PX : String → z_Mem → Prop} {p1 : Int32} {M : z_Mem} (H : P_X11_check a p1 M Q QX) (rM : R M) (K : ∀ M1, Q M1 → R M1 → Post M1) (KX : ∀ E M1, QX E M1 → R M1 → PX E M1) : P_X11_check a p1 M Post PX := by
  unfold P_X11_check at H ⊢
  refine mS_X11_requirePath hR hX hZ H rM (fun M_1 H rM_1 => ?_) KX
  obtain ⟨a3, e_a3, H⟩ := H
  refine z_nn_of e_a3 ?_
  refine And.intro (fun c1 => ?_) (fun c1 => ?_)
  · replace H := H.1 c1
    refine mS_X11_requireState hR hX hZ H rM_1 (fun M_13 H rM_13 => ?_) KX
    refine And.intro H.1 ?_
    replace H := H.2
    intro M_16 e_M_16
    replace H := H M_16 e_M_16
    have rM_16 : R M_16 := by rw [e_M_16]; exact (hR.new rM_13)
    refine mS_X4_init hR H rM_16 (fun M_17 H rM_17 => ?_)
    obtain ⟨a19, e_a19, H⟩ := H
    refine z_nn_of e_a19 ?_
    refine mS_X5_putToServer hR H rM_17 (fun M_18 H rM_18 => ?_)
    exact K _ H rM_18
  · replace H := H.2 c1
    refine mS_X11_requireState hR hX hZ H rM_1 (fun M_6 H rM_6 => ?_) KX
    refine And.intro H.1 ?_
    replace H := H.2
    intro M_9 e_M_9
    replace H := H M_9 e_M_9
    have rM_9 : R M_9 := by rw [e_M_9]; exact (hR.new rM_6)
    refine mS_X4_init hR H rM_9 (fun M_10 H rM_10 => ?_)
    obtain ⟨a12, e_a12, H⟩ := H
    refine z_nn_of e_a12 ?_
    refine mS_X5_putToServer hR H rM_10 (fun M_11 H rM_11 => ?_)
    exact K _ H rM_11
set_option maxRecDepth 100000 in
set_option maxHeartbeats 4000000 in
theorem mS_X11_changeKey {R : z_Mem → Prop} (hR : y_mR R) (hX : ∀ M k w, R M → R (z_exc M k w)) (hZ : ∀ M a j v, R M → R (z_sal M a j v)) {Q Post : Int32 → z_Mem → Prop} {a : Nat} {QX PX : String → z_Mem → Prop} {M : z_Mem} (H : P_X11_changeKey a M Q QX) (rM : R M) (K : ∀ x M1, Q x M1 → R M1 → Post x M1) (KX : ∀ E M1, QX E M1 → R M1 → PX E M1) : P_X11_changeKey a M Post PX := by
  unfold P_X11_changeKey at H ⊢
  obtain ⟨a3, e_a3, H⟩ := H
  refine z_nn_of e_a3 ?_
  refine mS_X1_canChangeKey hR H rM (fun x_2 M_2 H rM_2 => ?_)
  refine mS_X11_requireState hR hX hZ H rM_2 (fun M_4 H rM_4 => ?_) KX
  obtain ⟨a6, e_a6, H⟩ := H
  refine z_nn_of e_a6 ?_
  intro M_8 e_M_8
  replace H := H M_8 e_M_8
  have rM_8 : R M_8 := by rw [e_M_8]; exact (hR.sfi (by decide) rM_4)
  obtain ⟨a10, e_a10, H⟩ := H
  refine z_nn_of e_a10 ?_
  exact K _ _ H rM_8
set_option maxRecDepth 100000 in
set_option maxHeartbeats 4000000 in
theorem mS_X11_close {R : z_Mem → Prop} (hR : y_mR R) (hX : ∀ M k w, R M → R (z_exc M k w)) (hZ : ∀ M a j v, R M → R (z_sal M a j v)) {Q Post : z_Mem → Prop} {a : Nat} {QX PX : String → z_Mem → Prop} {M : z_Mem} (H : P_X11_close a M Q QX) (rM : R M) (K : ∀ M1, Q M1 → R M1 → Post M1) (KX : ∀ E M1, QX E M1 → R M1 → PX E M1) : P_X11_close a M Post PX := by
  unfold P_X11_close at H ⊢
  obtain ⟨a2, e_a2, H⟩ := H
  refine z_nn_of e_a2 ?_
  refine And.intro (fun c1 => ?_) (fun c1 => ?_)
  · replace H := H.1 c1
    refine mS_X11_requireState hR hX hZ H rM (fun M_9 H rM_9 => ?_) KX
    obtain ⟨a12, e_a12, H⟩ := H
    refine z_nn_of e_a12 ?_
    refine mS_X1_beginClosing hR H rM_9 (fun M_11 H rM_11 => ?_)
    exact K _ H rM_11
  · replace H := H.2 c1
    refine mS_X11_requireState hR hX hZ H rM (fun M_5 H rM_5 => ?_) KX
    obtain ⟨a8, e_a8, H⟩ := H
    refine z_nn_of e_a8 ?_
    refine mS_X1_beginClosing hR H rM_5 (fun M_7 H rM_7 => ?_)
    exact K _ H rM_7
set_option maxRecDepth 100000 in
set_option maxHeartbeats 4000000 in
theorem mS_X11_tick_32 {R : z_Mem → Prop} (hR : y_mR R) (hX : ∀ M k w, R M → R (z_exc M k w)) (hZ : ∀ M a j v, R M → R (z_sal M a j v)) {Q Post : Int32 → z_Mem → Prop} {a : Nat} {QX PX : String → z_Mem → Prop} : ∀ (m : Nat) {x1 : Int32} {x2 : Int32} {M : z_Mem} (H : P_X11_tick_32 a Q QX m x1 x2 M) (rM : R M) (K : ∀ x M1, Q x M1 → R M1 → Post x M1) (KX : ∀ E M1, QX E M1 → R M1 → PX E M1), P_X11_tick_32 a Post PX m x1 x2 M := by
  intro m
  induction m with
  | zero => intros; rename_i H _ _ _; exact False.elim H
  | succ m ih =>
    intro x1 x2 M H rM K KX
    unfold P_X11_tick_32 at H ⊢
    refine And.intro (fun c1 => ?_) (fun c1 => ?_)
    · replace H := H.1 c1
      obtain ⟨a3, e_a3, H⟩ := H
      refine z_nn_of e_a3 ?_
      exact K _ _ H rM
    · replace H := H.2 c1
      obtain ⟨a6, e_a6, H⟩ := H
      refine z_nn_of e_a6 ?_
      intro M_8 e_M_8
      replace H := H M_8 e_M_8
      have rM_8 : R M_8 := by rw [e_M_8]; exact (hR.sfi (by decide) rM)
      obtain ⟨a11, e_a11, H⟩ := H
      refine z_nn_of e_a11 ?_
      refine mS_X8_hearAll hR H rM_8 (fun M_10 H rM_10 => ?_)
      obtain ⟨a14, e_a14, H⟩ := H
      refine z_nn_of e_a14 ?_
      refine mS_X1_hearAll hR H rM_10 (fun M_13 H rM_13 => ?_)
      obtain ⟨a17, e_a17, H⟩ := H
      refine z_nn_of e_a17 ?_
      refine mS_X8_acknowledgeInTime hR H rM_13 (fun M_16 H rM_16 => ?_)
      obtain ⟨a20, e_a20, H⟩ := H
      refine z_nn_of e_a20 ?_
      refine mS_X1_lookAfter hR H rM_16 (fun M_19 H rM_19 => ?_)
      obtain ⟨a23, e_a23, H⟩ := H
      refine z_nn_of e_a23 ?_
      refine mS_X1_sendData hR H rM_19 (fun M_22 H rM_22 => ?_)
      obtain ⟨a26, e_a26, H⟩ := H
      refine z_nn_of e_a26 ?_
      refine mS_X5_letLeave hR H rM_22 (fun M_25 H rM_25 => ?_)
      intro x_27 e_x_27
      replace H := H x_27 e_x_27
      exact ih H rM_25 K KX
set_option maxRecDepth 100000 in
set_option maxHeartbeats 4000000 in
theorem mS_X11_tick_27 {R : z_Mem → Prop} (hR : y_mR R) (hX : ∀ M k w, R M → R (z_exc M k w)) (hZ : ∀ M a j v, R M → R (z_sal M a j v)) {Q Post : Int32 → z_Mem → Prop} {a : Nat} {QX PX : String → z_Mem → Prop} {x1 : Int32} {t0 : Int32} {M : z_Mem} (H : P_X11_tick_27 a Q QX x1 t0 M) (rM : R M) (K : ∀ x M1, Q x M1 → R M1 → Post x M1) (KX : ∀ E M1, QX E M1 → R M1 → PX E M1) : P_X11_tick_27 a Post PX x1 t0 M := by
  unfold P_X11_tick_27 at H ⊢
  refine mS_X11_requireState hR hX hZ H rM (fun M_28 H rM_28 => ?_) KX
  obtain ⟨m, H⟩ := H
  refine ⟨m, ?_⟩
  exact mS_X11_tick_32 hR hX hZ m H rM_28 K KX
set_option maxRecDepth 100000 in
set_option maxHeartbeats 4000000 in
theorem mS_X11_tick {R : z_Mem → Prop} (hR : y_mR R) (hX : ∀ M k w, R M → R (z_exc M k w)) (hZ : ∀ M a j v, R M → R (z_sal M a j v)) {Q Post : Int32 → z_Mem → Prop} {a : Nat} {QX PX : String → z_Mem → Prop} {p1 : Int32} {M : z_Mem} (H : P_X11_tick a p1 M Q QX) (rM : R M) (K : ∀ x M1, Q x M1 → R M1 → Post x M1) (KX : ∀ E M1, QX E M1 → R M1 → PX E M1) : P_X11_tick a p1 M Post PX := by
  unfold P_X11_tick at H ⊢
  refine mS_X11_requireRange hR hX hZ H rM (fun M_30 H rM_30 => ?_) KX
  obtain ⟨a32, e_a32, H⟩ := H
  refine z_nn_of e_a32 ?_
  refine And.intro (fun c1 => ?_) (fun c1 => ?_)
  · replace H := H.1 c1
    exact mS_X11_tick_27 hR hX hZ H rM_30 K KX
  · replace H := H.2 c1
    exact mS_X11_tick_27 hR hX hZ H rM_30 K KX
set_option maxRecDepth 100000 in
set_option maxHeartbeats 4000000 in
theorem mS_L_setPath {R : z_Mem → Prop} (hR : y_mR R) (hX : ∀ M k w, R M → R (z_exc M k w)) (hZ : ∀ M a j v, R M → R (z_sal M a j v)) {Q Post : Int32 → z_Mem → Prop} {p1 : Option Nat} {p2 : Int32} {p3 : Int32} {p4 : Int32} {p5 : Int32} {p6 : Int32} {M : z_Mem} (H : P_L_setPath p1 p2 p3 p4 p5 p6 M Q) (rM : R M) (K : ∀ x M1, Q x M1 → R M1 → Post x M1) : P_L_setPath p1 p2 p3 p4 p5 p6 M Post := by
  unfold P_L_setPath at H ⊢
  obtain ⟨a2, e_a2, H⟩ := H
  refine z_nn_of e_a2 ?_
  refine mS_X11_setPath hR hX hZ H rM (fun M_1 H rM_1 => ?_) (fun E M_1 H rM_1 => ?_)
  · exact K _ _ H rM_1
  · rcases H with H | H
    · refine Or.inl ?_
      refine And.intro H.1 ?_
      replace H := H.2
      exact K _ _ H rM_1
    · refine Or.inr ?_
      refine And.intro H.1 ?_
      replace H := H.2
      exact K _ _ H rM_1
set_option maxRecDepth 100000 in
set_option maxHeartbeats 4000000 in
theorem mS_L_setUp {R : z_Mem → Prop} (hR : y_mR R) (hX : ∀ M k w, R M → R (z_exc M k w)) (hZ : ∀ M a j v, R M → R (z_sal M a j v)) {Q Post : Int32 → z_Mem → Prop} {p1 : Option Nat} {p2 : Int32} {p3 : Int32} {p4 : Option Nat} {M : z_Mem} (H : P_L_setUp p1 p2 p3 p4 M Q) (rM : R M) (K : ∀ x M1, Q x M1 → R M1 → Post x M1) : P_L_setUp p1 p2 p3 p4 M Post := by
  unfold P_L_setUp at H ⊢
  obtain ⟨a2, e_a2, H⟩ := H
  refine z_nn_of e_a2 ?_
  refine mS_X11_setUp hR hX hZ H rM (fun x_1 M_1 H rM_1 => ?_) (fun E M_1 H rM_1 => ?_)
  · refine And.intro (fun c1 => ?_) (fun c1 => ?_)
    · replace H := H.1 c1
      obtain ⟨a4, e_a4, H⟩ := H
      refine z_nn_of e_a4 ?_
      refine And.intro H.1 ?_
      replace H := H.2
      intro M_6 e_M_6
      replace H := H M_6 e_M_6
      have rM_6 : R M_6 := by rw [e_M_6]; exact (hZ _ _ _ _ rM_1)
      exact K _ _ H rM_6
    · replace H := H.2 c1
      obtain ⟨a7, e_a7, H⟩ := H
      refine z_nn_of e_a7 ?_
      refine And.intro H.1 ?_
      replace H := H.2
      intro M_9 e_M_9
      replace H := H M_9 e_M_9
      have rM_9 : R M_9 := by rw [e_M_9]; exact (hZ _ _ _ _ rM_1)
      exact K _ _ H rM_9
  · refine And.intro H.1 ?_
    replace H := H.2
    exact K _ _ H rM_1
set_option maxRecDepth 100000 in
set_option maxHeartbeats 4000000 in
theorem mS_L_lose {R : z_Mem → Prop} (hR : y_mR R) (hX : ∀ M k w, R M → R (z_exc M k w)) (hZ : ∀ M a j v, R M → R (z_sal M a j v)) {Q Post : Int32 → z_Mem → Prop} {p1 : Option Nat} {p2 : Int32} {p3 : Int32} {p4 : Int32} {M : z_Mem} (H : P_L_lose p1 p2 p3 p4 M Q) (rM : R M) (K : ∀ x M1, Q x M1 → R M1 → Post x M1) : P_L_lose p1 p2 p3 p4 M Post := by
  unfold P_L_lose at H ⊢
  obtain ⟨a2, e_a2, H⟩ := H
  refine z_nn_of e_a2 ?_
  refine mS_X11_lose hR hX hZ H rM (fun M_1 H rM_1 => ?_) (fun E M_1 H rM_1 => ?_)
  · exact K _ _ H rM_1
  · rcases H with H | H
    · refine Or.inl ?_
      refine And.intro H.1 ?_
      replace H := H.2
      exact K _ _ H rM_1
    · refine Or.inr ?_
      refine And.intro H.1 ?_
      replace H := H.2
      exact K _ _ H rM_1
set_option maxRecDepth 100000 in
set_option maxHeartbeats 4000000 in
theorem mS_L_late {R : z_Mem → Prop} (hR : y_mR R) (hX : ∀ M k w, R M → R (z_exc M k w)) (hZ : ∀ M a j v, R M → R (z_sal M a j v)) {Q Post : Int32 → z_Mem → Prop} {p1 : Option Nat} {p2 : Int32} {p3 : Int32} {p4 : Int32} {M : z_Mem} (H : P_L_late p1 p2 p3 p4 M Q) (rM : R M) (K : ∀ x M1, Q x M1 → R M1 → Post x M1) : P_L_late p1 p2 p3 p4 M Post := by
  unfold P_L_late at H ⊢
  obtain ⟨a2, e_a2, H⟩ := H
  refine z_nn_of e_a2 ?_
  refine mS_X11_late hR hX hZ H rM (fun M_1 H rM_1 => ?_) (fun E M_1 H rM_1 => ?_)
  · exact K _ _ H rM_1
  · rcases H with H | H
    · refine Or.inl ?_
      refine And.intro H.1 ?_
      replace H := H.2
      exact K _ _ H rM_1
    · refine Or.inr ?_
      refine And.intro H.1 ?_
      replace H := H.2
      exact K _ _ H rM_1
set_option maxRecDepth 100000 in
set_option maxHeartbeats 4000000 in
theorem mS_L_foreign {R : z_Mem → Prop} (hR : y_mR R) (hX : ∀ M k w, R M → R (z_exc M k w)) (hZ : ∀ M a j v, R M → R (z_sal M a j v)) {Q Post : Int32 → z_Mem → Prop} {p1 : Option Nat} {p2 : Int32} {p3 : Int32} {p4 : Option Nat} {M : z_Mem} (H : P_L_foreign p1 p2 p3 p4 M Q) (rM : R M) (K : ∀ x M1, Q x M1 → R M1 → Post x M1) : P_L_foreign p1 p2 p3 p4 M Post := by
  unfold P_L_foreign at H ⊢
  obtain ⟨a2, e_a2, H⟩ := H
  refine z_nn_of e_a2 ?_
  refine mS_X11_foreign hR hX hZ H rM (fun x_1 M_1 H rM_1 => ?_) (fun E M_1 H rM_1 => ?_)
  · obtain ⟨a3, e_a3, H⟩ := H
    refine z_nn_of e_a3 ?_
    refine And.intro H.1 ?_
    replace H := H.2
    intro M_5 e_M_5
    replace H := H M_5 e_M_5
    have rM_5 : R M_5 := by rw [e_M_5]; exact (hZ _ _ _ _ rM_1)
    exact K _ _ H rM_5
  · rcases H with H | H
    · refine Or.inl ?_
      refine And.intro H.1 ?_
      replace H := H.2
      exact K _ _ H rM_1
    · refine Or.inr ?_
      refine And.intro H.1 ?_
      replace H := H.2
      exact K _ _ H rM_1
set_option maxRecDepth 100000 in
set_option maxHeartbeats 4000000 in
theorem mS_L_read {R : z_Mem → Prop} (hR : y_mR R) (hX : ∀ M k w, R M → R (z_exc M k w)) (hZ : ∀ M a j v, R M → R (z_sal M a j v)) {Q Post : Int32 → z_Mem → Prop} {p1 : Option Nat} {p2 : Int32} {p3 : Int32} {p4 : Option Nat} {M : z_Mem} (H : P_L_read p1 p2 p3 p4 M Q) (rM : R M) (K : ∀ x M1, Q x M1 → R M1 → Post x M1) : P_L_read p1 p2 p3 p4 M Post := by
  unfold P_L_read at H ⊢
  obtain ⟨a2, e_a2, H⟩ := H
  refine z_nn_of e_a2 ?_
  refine mS_X11_read hR hX hZ H rM (fun x_1 M_1 H rM_1 => ?_) (fun E M_1 H rM_1 => ?_)
  · obtain ⟨a3, e_a3, H⟩ := H
    refine z_nn_of e_a3 ?_
    refine And.intro H.1 ?_
    replace H := H.2
    intro M_5 e_M_5
    replace H := H M_5 e_M_5
    have rM_5 : R M_5 := by rw [e_M_5]; exact (hZ _ _ _ _ rM_1)
    exact K _ _ H rM_5
  · rcases H with H | H
    · refine Or.inl ?_
      refine And.intro H.1 ?_
      replace H := H.2
      exact K _ _ H rM_1
    · refine Or.inr ?_
      refine And.intro H.1 ?_
      replace H := H.2
      exact K _ _ H rM_1
set_option maxRecDepth 100000 in
set_option maxHeartbeats 4000000 in
theorem mS_L_connect {R : z_Mem → Prop} (hR : y_mR R) (hX : ∀ M k w, R M → R (z_exc M k w)) (hZ : ∀ M a j v, R M → R (z_sal M a j v)) {Q Post : Int32 → z_Mem → Prop} {p1 : Option Nat} {p2 : Int32} {M : z_Mem} (H : P_L_connect p1 p2 M Q) (rM : R M) (K : ∀ x M1, Q x M1 → R M1 → Post x M1) : P_L_connect p1 p2 M Post := by
  unfold P_L_connect at H ⊢
  obtain ⟨a2, e_a2, H⟩ := H
  refine z_nn_of e_a2 ?_
  refine mS_X11_connect hR hX hZ H rM (fun M_1 H rM_1 => ?_) (fun E M_1 H rM_1 => ?_)
  · exact K _ _ H rM_1
  · rcases H with H | H
    · refine Or.inl ?_
      refine And.intro H.1 ?_
      replace H := H.2
      exact K _ _ H rM_1
    · refine Or.inr ?_
      refine And.intro H.1 ?_
      replace H := H.2
      exact K _ _ H rM_1
set_option maxRecDepth 100000 in
set_option maxHeartbeats 4000000 in
theorem mS_L_write {R : z_Mem → Prop} (hR : y_mR R) (hX : ∀ M k w, R M → R (z_exc M k w)) (hZ : ∀ M a j v, R M → R (z_sal M a j v)) {Q Post : Int32 → z_Mem → Prop} {p1 : Option Nat} {p2 : Int32} {p3 : Int32} {p4 : Option Nat} {M : z_Mem} (H : P_L_write p1 p2 p3 p4 M Q) (rM : R M) (K : ∀ x M1, Q x M1 → R M1 → Post x M1) : P_L_write p1 p2 p3 p4 M Post := by
  unfold P_L_write at H ⊢
  obtain ⟨a2, e_a2, H⟩ := H
  refine z_nn_of e_a2 ?_
  refine mS_X11_write hR hX hZ H rM (fun x_1 M_1 H rM_1 => ?_) (fun E M_1 H rM_1 => ?_)
  · obtain ⟨a3, e_a3, H⟩ := H
    refine z_nn_of e_a3 ?_
    refine And.intro H.1 ?_
    replace H := H.2
    intro M_5 e_M_5
    replace H := H M_5 e_M_5
    have rM_5 : R M_5 := by rw [e_M_5]; exact (hZ _ _ _ _ rM_1)
    exact K _ _ H rM_5
  · rcases H with H | H
    · refine Or.inl ?_
      refine And.intro H.1 ?_
      replace H := H.2
      exact K _ _ H rM_1
    · refine Or.inr ?_
      rcases H with H | H
      · refine Or.inl ?_
        refine And.intro H.1 ?_
        replace H := H.2
        exact K _ _ H rM_1
      · refine Or.inr ?_
        refine And.intro H.1 ?_
        replace H := H.2
        exact K _ _ H rM_1
set_option maxRecDepth 100000 in
set_option maxHeartbeats 4000000 in
theorem mS_L_setWay {R : z_Mem → Prop} (hR : y_mR R) (hX : ∀ M k w, R M → R (z_exc M k w)) (hZ : ∀ M a j v, R M → R (z_sal M a j v)) {Q Post : Int32 → z_Mem → Prop} {p1 : Option Nat} {p2 : Int32} {p3 : Int32} {p4 : Option Nat} {M : z_Mem} (H : P_L_setWay p1 p2 p3 p4 M Q) (rM : R M) (K : ∀ x M1, Q x M1 → R M1 → Post x M1) : P_L_setWay p1 p2 p3 p4 M Post := by
  unfold P_L_setWay at H ⊢
  obtain ⟨a2, e_a2, H⟩ := H
  refine z_nn_of e_a2 ?_
  refine mS_X11_setWay hR hX hZ H rM (fun x_1 M_1 H rM_1 => ?_) (fun E M_1 H rM_1 => ?_)
  · obtain ⟨a3, e_a3, H⟩ := H
    refine z_nn_of e_a3 ?_
    refine And.intro H.1 ?_
    replace H := H.2
    intro M_5 e_M_5
    replace H := H M_5 e_M_5
    have rM_5 : R M_5 := by rw [e_M_5]; exact (hZ _ _ _ _ rM_1)
    exact K _ _ H rM_5
  · rcases H with H | H
    · refine Or.inl ?_
      refine And.intro H.1 ?_
      replace H := H.2
      exact K _ _ H rM_1
    · refine Or.inr ?_
      refine And.intro H.1 ?_
      replace H := H.2
      exact K _ _ H rM_1
set_option maxRecDepth 100000 in
set_option maxHeartbeats 4000000 in
theorem mS_L_check {R : z_Mem → Prop} (hR : y_mR R) (hX : ∀ M k w, R M → R (z_exc M k w)) (hZ : ∀ M a j v, R M → R (z_sal M a j v)) {Q Post : Int32 → z_Mem → Prop} {p1 : Option Nat} {p2 : Int32} {M : z_Mem} (H : P_L_check p1 p2 M Q) (rM : R M) (K : ∀ x M1, Q x M1 → R M1 → Post x M1) : P_L_check p1 p2 M Post := by
  unfold P_L_check at H ⊢
  obtain ⟨a2, e_a2, H⟩ := H
  refine z_nn_of e_a2 ?_
  refine mS_X11_check hR hX hZ H rM (fun M_1 H rM_1 => ?_) (fun E M_1 H rM_1 => ?_)
  · exact K _ _ H rM_1
  · rcases H with H | H
    · refine Or.inl ?_
      refine And.intro H.1 ?_
      replace H := H.2
      exact K _ _ H rM_1
    · refine Or.inr ?_
      refine And.intro H.1 ?_
      replace H := H.2
      exact K _ _ H rM_1
set_option maxRecDepth 100000 in
set_option maxHeartbeats 4000000 in
theorem mS_L_changeKey {R : z_Mem → Prop} (hR : y_mR R) (hX : ∀ M k w, R M → R (z_exc M k w)) (hZ : ∀ M a j v, R M → R (z_sal M a j v)) {Q Post : Int32 → z_Mem → Prop} {p1 : Option Nat} {p2 : Option Nat} {M : z_Mem} (H : P_L_changeKey p1 p2 M Q) (rM : R M) (K : ∀ x M1, Q x M1 → R M1 → Post x M1) : P_L_changeKey p1 p2 M Post := by
  unfold P_L_changeKey at H ⊢
  obtain ⟨a2, e_a2, H⟩ := H
  refine z_nn_of e_a2 ?_
  refine mS_X11_changeKey hR hX hZ H rM (fun x_1 M_1 H rM_1 => ?_) (fun E M_1 H rM_1 => ?_)
  · obtain ⟨a3, e_a3, H⟩ := H
    refine z_nn_of e_a3 ?_
    refine And.intro H.1 ?_
    replace H := H.2
    intro M_5 e_M_5
    replace H := H M_5 e_M_5
    have rM_5 : R M_5 := by rw [e_M_5]; exact (hZ _ _ _ _ rM_1)
    exact K _ _ H rM_5
  · refine And.intro H.1 ?_
    replace H := H.2
    exact K _ _ H rM_1
set_option maxRecDepth 100000 in
set_option maxHeartbeats 4000000 in
theorem mS_L_close {R : z_Mem → Prop} (hR : y_mR R) (hX : ∀ M k w, R M → R (z_exc M k w)) (hZ : ∀ M a j v, R M → R (z_sal M a j v)) {Q Post : Int32 → z_Mem → Prop} {p1 : Option Nat} {M : z_Mem} (H : P_L_close p1 M Q) (rM : R M) (K : ∀ x M1, Q x M1 → R M1 → Post x M1) : P_L_close p1 M Post := by
  unfold P_L_close at H ⊢
  obtain ⟨a2, e_a2, H⟩ := H
  refine z_nn_of e_a2 ?_
  refine mS_X11_close hR hX hZ H rM (fun M_1 H rM_1 => ?_) (fun E M_1 H rM_1 => ?_)
  · exact K _ _ H rM_1
  · refine And.intro H.1 ?_
    replace H := H.2
    exact K _ _ H rM_1
set_option maxRecDepth 100000 in
set_option maxHeartbeats 4000000 in
theorem mS_L_tick {R : z_Mem → Prop} (hR : y_mR R) (hX : ∀ M k w, R M → R (z_exc M k w)) (hZ : ∀ M a j v, R M → R (z_sal M a j v)) {Q Post : Int32 → z_Mem → Prop} {p1 : Option Nat} {p2 : Int32} {p3 : Option Nat} {M : z_Mem} (H : P_L_tick p1 p2 p3 M Q) (rM : R M) (K : ∀ x M1, Q x M1 → R M1 → Post x M1) : P_L_tick p1 p2 p3 M Post := by
  unfold P_L_tick at H ⊢
  obtain ⟨a2, e_a2, H⟩ := H
  refine z_nn_of e_a2 ?_
  refine mS_X11_tick hR hX hZ H rM (fun x_1 M_1 H rM_1 => ?_) (fun E M_1 H rM_1 => ?_)
  · obtain ⟨a3, e_a3, H⟩ := H
    refine z_nn_of e_a3 ?_
    refine And.intro H.1 ?_
    replace H := H.2
    intro M_5 e_M_5
    replace H := H M_5 e_M_5
    have rM_5 : R M_5 := by rw [e_M_5]; exact (hZ _ _ _ _ rM_1)
    exact K _ _ H rM_5
  · rcases H with H | H
    · refine Or.inl ?_
      refine And.intro H.1 ?_
      replace H := H.2
      exact K _ _ H rM_1
    · refine Or.inr ?_
      refine And.intro H.1 ?_
      replace H := H.2
      exact K _ _ H rM_1
section MW
variable {n : Nat} {u : Int32} {b : Prop} {M : z_Mem}
theorem mRc_exc : ∀ M k w, mRc n u b M → mRc n u b (z_exc M k w) := fun M k w h => ⟨Nat.le_trans h.1 (Nat.le_add_right _ _), h.2⟩
theorem mRc_sal : ∀ M a j v, mRc n u b M → mRc n u b (z_sal M a j v) := fun M a j v h => h
theorem w_L_setPath {Post : Int32 → z_Mem → Prop} {p1 : Option Nat} {p2 : Int32} {p3 : Int32} {p4 : Int32} {p5 : Int32} {p6 : Int32} (h : mRc n u b M) (H : P_L_setPath p1 p2 p3 p4 p5 p6 M (fun x M1 => mRc n u b M1 → Post x M1)) : P_L_setPath p1 p2 p3 p4 p5 p6 M Post := mS_L_setPath mRc_W mRc_exc mRc_sal H h (fun _ _ H r => H r)
theorem w_L_setUp {Post : Int32 → z_Mem → Prop} {p1 : Option Nat} {p2 : Int32} {p3 : Int32} {p4 : Option Nat} (h : mRc n u b M) (H : P_L_setUp p1 p2 p3 p4 M (fun x M1 => mRc n u b M1 → Post x M1)) : P_L_setUp p1 p2 p3 p4 M Post := mS_L_setUp mRc_W mRc_exc mRc_sal H h (fun _ _ H r => H r)
theorem w_L_lose {Post : Int32 → z_Mem → Prop} {p1 : Option Nat} {p2 : Int32} {p3 : Int32} {p4 : Int32} (h : mRc n u b M) (H : P_L_lose p1 p2 p3 p4 M (fun x M1 => mRc n u b M1 → Post x M1)) : P_L_lose p1 p2 p3 p4 M Post := mS_L_lose mRc_W mRc_exc mRc_sal H h (fun _ _ H r => H r)
theorem w_L_late {Post : Int32 → z_Mem → Prop} {p1 : Option Nat} {p2 : Int32} {p3 : Int32} {p4 : Int32} (h : mRc n u b M) (H : P_L_late p1 p2 p3 p4 M (fun x M1 => mRc n u b M1 → Post x M1)) : P_L_late p1 p2 p3 p4 M Post := mS_L_late mRc_W mRc_exc mRc_sal H h (fun _ _ H r => H r)
theorem w_L_foreign {Post : Int32 → z_Mem → Prop} {p1 : Option Nat} {p2 : Int32} {p3 : Int32} {p4 : Option Nat} (h : mRc n u b M) (H : P_L_foreign p1 p2 p3 p4 M (fun x M1 => mRc n u b M1 → Post x M1)) : P_L_foreign p1 p2 p3 p4 M Post := mS_L_foreign mRc_W mRc_exc mRc_sal H h (fun _ _ H r => H r)
theorem w_L_read {Post : Int32 → z_Mem → Prop} {p1 : Option Nat} {p2 : Int32} {p3 : Int32} {p4 : Option Nat} (h : mRc n u b M) (H : P_L_read p1 p2 p3 p4 M (fun x M1 => mRc n u b M1 → Post x M1)) : P_L_read p1 p2 p3 p4 M Post := mS_L_read mRc_W mRc_exc mRc_sal H h (fun _ _ H r => H r)
theorem w_L_connect {Post : Int32 → z_Mem → Prop} {p1 : Option Nat} {p2 : Int32} (h : mRc n u b M) (H : P_L_connect p1 p2 M (fun x M1 => mRc n u b M1 → Post x M1)) : P_L_connect p1 p2 M Post := mS_L_connect mRc_W mRc_exc mRc_sal H h (fun _ _ H r => H r)
theorem w_L_write {Post : Int32 → z_Mem → Prop} {p1 : Option Nat} {p2 : Int32} {p3 : Int32} {p4 : Option Nat} (h : mRc n u b M) (H : P_L_write p1 p2 p3 p4 M (fun x M1 => mRc n u b M1 → Post x M1)) : P_L_write p1 p2 p3 p4 M Post := mS_L_write mRc_W mRc_exc mRc_sal H h (fun _ _ H r => H r)
theorem w_L_setWay {Post : Int32 → z_Mem → Prop} {p1 : Option Nat} {p2 : Int32} {p3 : Int32} {p4 : Option Nat} (h : mRc n u b M) (H : P_L_setWay p1 p2 p3 p4 M (fun x M1 => mRc n u b M1 → Post x M1)) : P_L_setWay p1 p2 p3 p4 M Post := mS_L_setWay mRc_W mRc_exc mRc_sal H h (fun _ _ H r => H r)
theorem w_L_check {Post : Int32 → z_Mem → Prop} {p1 : Option Nat} {p2 : Int32} (h : mRc n u b M) (H : P_L_check p1 p2 M (fun x M1 => mRc n u b M1 → Post x M1)) : P_L_check p1 p2 M Post := mS_L_check mRc_W mRc_exc mRc_sal H h (fun _ _ H r => H r)
theorem w_L_changeKey {Post : Int32 → z_Mem → Prop} {p1 : Option Nat} {p2 : Option Nat} (h : mRc n u b M) (H : P_L_changeKey p1 p2 M (fun x M1 => mRc n u b M1 → Post x M1)) : P_L_changeKey p1 p2 M Post := mS_L_changeKey mRc_W mRc_exc mRc_sal H h (fun _ _ H r => H r)
theorem w_L_close {Post : Int32 → z_Mem → Prop} {p1 : Option Nat} (h : mRc n u b M) (H : P_L_close p1 M (fun x M1 => mRc n u b M1 → Post x M1)) : P_L_close p1 M Post := mS_L_close mRc_W mRc_exc mRc_sal H h (fun _ _ H r => H r)
theorem w_L_tick {Post : Int32 → z_Mem → Prop} {p1 : Option Nat} {p2 : Int32} {p3 : Option Nat} (h : mRc n u b M) (H : P_L_tick p1 p2 p3 M (fun x M1 => mRc n u b M1 → Post x M1)) : P_L_tick p1 p2 p3 M Post := mS_L_tick mRc_W mRc_exc mRc_sal H h (fun _ _ H r => H r)
theorem w_X11_setCookies {a : Nat} {Post : Int32 → z_Mem → Prop} {p1 : Int32} (h : mRc n u b M) (H : P_X11_setCookies a p1 M (fun x M1 => mRc n u b M1 → Post x M1)) : P_X11_setCookies a p1 M Post := mS_X11_setCookies mRc_W H h (fun _ _ H r => H r)
theorem w_X11_loseState {a : Nat} {Post : z_Mem → Prop} (h : mRc n u b M) (H : P_X11_loseState a M (fun M1 => mRc n u b M1 → Post M1)) : P_X11_loseState a M Post := mS_X11_loseState mRc_W H h (fun _ H r => H r)
end MW
