/-! ===== THE CLASS: what every write keeps, every method keeps ===== -/
def y_mR (R : z_Mem → Prop) : Prop := (∀ (M : z_Mem) (g a : Nat) (v : Int32), (g ≠ 898 ∧ g ≠ 143) → R M → R (z_sfi M g a v)) ∧ (∀ (M : z_Mem) (a : Nat), R M → R (z_sfi M 898 a 1)) ∧ (∀ (M : z_Mem) (k w : Nat), R M → R (z_new M k w)) ∧ (∀ (M : z_Mem) (k w : Nat), R M → R (z_nwa M k w)) ∧ (∀ (M : z_Mem) (a j : Nat) (v : Int32), R M → R (z_sai M a j v)) ∧ (∀ (M : z_Mem) (a j : Nat) (v : Option Nat), R M → R (z_sar M a j v)) ∧ (∀ (M : z_Mem) (g a : Nat) (v : Option Nat), R M → R (z_sfr M g a v)) ∧ (∀ (M : z_Mem) (a : Nat) (f : Nat → Option Nat), R M → R (z_srr M a f))
theorem y_mR.sfi {R : z_Mem → Prop} (h : y_mR R) {M : z_Mem} {g a : Nat} {v : Int32} (hg : g ≠ 898 ∧ g ≠ 143) (r : R M) : R (z_sfi M g a v) := h.1 M g a v hg r
theorem y_mR.k898 {R : z_Mem → Prop} (h : y_mR R) {M : z_Mem} {a : Nat} (r : R M) : R (z_sfi M 898 a 1) := h.2.1 M a r
theorem y_mR.new {R : z_Mem → Prop} (h : y_mR R) {M : z_Mem} {k w : Nat} (r : R M) : R (z_new M k w) := h.2.2.1 M k w r
theorem y_mR.nwa {R : z_Mem → Prop} (h : y_mR R) {M : z_Mem} {k w : Nat} (r : R M) : R (z_nwa M k w) := h.2.2.2.1 M k w r
theorem y_mR.sai {R : z_Mem → Prop} (h : y_mR R) {M : z_Mem} {a j : Nat} {v : Int32} (r : R M) : R (z_sai M a j v) := h.2.2.2.2.1 M a j v r
theorem y_mR.sar {R : z_Mem → Prop} (h : y_mR R) {M : z_Mem} {a j : Nat} {v : Option Nat} (r : R M) : R (z_sar M a j v) := h.2.2.2.2.2.1 M a j v r
theorem y_mR.sfr {R : z_Mem → Prop} (h : y_mR R) {M : z_Mem} {g a : Nat} {v : Option Nat} (r : R M) : R (z_sfr M g a v) := h.2.2.2.2.2.2.1 M g a v r
theorem y_mR.srr {R : z_Mem → Prop} (h : y_mR R) {M : z_Mem} {a : Nat} {f : Nat → Option Nat} (r : R M) : R (z_srr M a f) := h.2.2.2.2.2.2.2 M a f r
set_option maxRecDepth 100000 in
set_option maxHeartbeats 4000000 in
theorem mS_X0_init {R : z_Mem → Prop} (hR : y_mR R) {Q Post : z_Mem → Prop} {a : Nat} {M : z_Mem} (H : P_X0_init a M Q) (rM : R M) (K : ∀ M1, Q M1 → R M1 → Post M1) : P_X0_init a M Post := by
  unfold P_X0_init at H ⊢
  refine And.intro H.1 ?_
  replace H := H.2
  intro M_2 e_M_2
  replace H := H M_2 e_M_2
  have rM_2 : R M_2 := by rw [e_M_2]; exact (hR.nwa rM)
  intro M_3 e_M_3
  replace H := H M_3 e_M_3
  have rM_3 : R M_3 := by rw [e_M_3]; exact (hR.sfr rM_2)
  refine And.intro H.1 ?_
  replace H := H.2
  intro M_5 e_M_5
  replace H := H M_5 e_M_5
  have rM_5 : R M_5 := by rw [e_M_5]; exact (hR.nwa rM_3)
  intro M_6 e_M_6
  replace H := H M_6 e_M_6
  have rM_6 : R M_6 := by rw [e_M_6]; exact (hR.sfr rM_5)
  refine And.intro H.1 ?_
  replace H := H.2
  intro M_8 e_M_8
  replace H := H M_8 e_M_8
  have rM_8 : R M_8 := by rw [e_M_8]; exact (hR.nwa rM_6)
  intro M_9 e_M_9
  replace H := H M_9 e_M_9
  have rM_9 : R M_9 := by rw [e_M_9]; exact (hR.sfr rM_8)
  exact K _ H rM_9
set_option maxRecDepth 100000 in
set_option maxHeartbeats 4000000 in
theorem mS_X0_addRange {R : z_Mem → Prop} (hR : y_mR R) {Q Post : z_Mem → Prop} {a : Nat} {p1 : Int32} {p2 : Int32} {M : z_Mem} (H : P_X0_addRange a p1 p2 M Q) (rM : R M) (K : ∀ M1, Q M1 → R M1 → Post M1) : P_X0_addRange a p1 p2 M Post := by
  unfold P_X0_addRange at H ⊢
  refine And.intro (fun c1 => ?_) (fun c1 => ?_)
  · replace H := H.1 c1
    exact K _ H rM
  · replace H := H.2 c1
    obtain ⟨a5, e_a5, H⟩ := H
    refine z_nn_of e_a5 ?_
    refine And.intro H.1 ?_
    replace H := H.2
    intro M_7 e_M_7
    replace H := H M_7 e_M_7
    have rM_7 : R M_7 := by rw [e_M_7]; exact (hR.sai rM)
    obtain ⟨a10, e_a10, H⟩ := H
    refine z_nn_of e_a10 ?_
    refine And.intro H.1 ?_
    replace H := H.2
    intro M_12 e_M_12
    replace H := H M_12 e_M_12
    have rM_12 : R M_12 := by rw [e_M_12]; exact (hR.sai rM_7)
    intro M_14 e_M_14
    replace H := H M_14 e_M_14
    have rM_14 : R M_14 := by rw [e_M_14]; exact (hR.sfi (by decide) rM_12)
    exact K _ H rM_14
set_option maxRecDepth 100000 in
set_option maxHeartbeats 4000000 in
theorem mS_X0_greatest {R : z_Mem → Prop} (hR : y_mR R) {Q Post : Int32 → z_Mem → Prop} {a : Nat} {M : z_Mem} (H : P_X0_greatest a M Q) (rM : R M) (K : ∀ x M1, Q x M1 → R M1 → Post x M1) : P_X0_greatest a M Post := by
  unfold P_X0_greatest at H ⊢
  refine And.intro (fun c1 => ?_) (fun c1 => ?_)
  · replace H := H.1 c1
    exact K _ _ H rM
  · replace H := H.2 c1
    obtain ⟨a4, e_a4, H⟩ := H
    refine z_nn_of e_a4 ?_
    refine And.intro H.1 ?_
    replace H := H.2
    exact K _ _ H rM
set_option maxRecDepth 100000 in
set_option maxHeartbeats 4000000 in
theorem mS_X1_routeOf {R : z_Mem → Prop} (hR : y_mR R) {Q Post : Option Nat → z_Mem → Prop} {a : Nat} {p1 : Int32} {M : z_Mem} (H : P_X1_routeOf a p1 M Q) (rM : R M) (K : ∀ x M1, Q x M1 → R M1 → Post x M1) : P_X1_routeOf a p1 M Post := by
  unfold P_X1_routeOf at H ⊢
  refine And.intro (fun c1 => ?_) (fun c1 => ?_)
  · replace H := H.1 c1
    exact K _ _ H rM
  · replace H := H.2 c1
    exact K _ _ H rM
set_option maxRecDepth 100000 in
set_option maxHeartbeats 4000000 in
theorem mS_X1_packetAt {R : z_Mem → Prop} (hR : y_mR R) {Q Post : Option Nat → z_Mem → Prop} {a : Nat} {p1 : Int32} {M : z_Mem} (H : P_X1_packetAt a p1 M Q) (rM : R M) (K : ∀ x M1, Q x M1 → R M1 → Post x M1) : P_X1_packetAt a p1 M Post := by
  unfold P_X1_packetAt at H ⊢
  refine And.intro (fun c1 => ?_) (fun c1 => ?_)
  · replace H := H.1 c1
    exact K _ _ H rM
  · replace H := H.2 c1
    refine And.intro (fun c2 => ?_) (fun c2 => ?_)
    · replace H := H.1 c2
      exact K _ _ H rM
    · replace H := H.2 c2
      refine And.intro (fun c3 => ?_) (fun c3 => ?_)
      · replace H := H.1 c3
        exact K _ _ H rM
      · replace H := H.2 c3
        obtain ⟨a6, e_a6, H⟩ := H
        refine z_nn_of e_a6 ?_
        refine And.intro H.1 ?_
        replace H := H.2
        exact K _ _ H rM
set_option maxRecDepth 100000 in
set_option maxHeartbeats 4000000 in
theorem mS_X4_init {R : z_Mem → Prop} (hR : y_mR R) {Q Post : z_Mem → Prop} {a : Nat} {p1 : Int32} {M : z_Mem} (H : P_X4_init a p1 M Q) (rM : R M) (K : ∀ M1, Q M1 → R M1 → Post M1) : P_X4_init a p1 M Post := by
  unfold P_X4_init at H ⊢
  intro M_1 e_M_1
  replace H := H M_1 e_M_1
  have rM_1 : R M_1 := by rw [e_M_1]; exact (hR.sfi (by decide) rM)
  intro M_2 e_M_2
  replace H := H M_2 e_M_2
  have rM_2 : R M_2 := by rw [e_M_2]; exact (hR.sfi (by decide) rM_1)
  exact K _ H rM_2
set_option maxRecDepth 100000 in
set_option maxHeartbeats 4000000 in
theorem mS_X5_laneOf {R : z_Mem → Prop} (hR : y_mR R) {Q Post : Option Nat → z_Mem → Prop} {a : Nat} {p1 : Int32} {M : z_Mem} (H : P_X5_laneOf a p1 M Q) (rM : R M) (K : ∀ x M1, Q x M1 → R M1 → Post x M1) : P_X5_laneOf a p1 M Post := by
  unfold P_X5_laneOf at H ⊢
  refine And.intro (fun c1 => ?_) (fun c1 => ?_)
  · replace H := H.1 c1
    exact K _ _ H rM
  · replace H := H.2 c1
    exact K _ _ H rM
set_option maxRecDepth 100000 in
set_option maxHeartbeats 4000000 in
theorem mS_X3_hasRoom {R : z_Mem → Prop} (hR : y_mR R) {Q Post : Int32 → z_Mem → Prop} {a : Nat} {M : z_Mem} (H : P_X3_hasRoom a M Q) (rM : R M) (K : ∀ x M1, Q x M1 → R M1 → Post x M1) : P_X3_hasRoom a M Post := by
  unfold P_X3_hasRoom at H ⊢
  refine And.intro (fun c1 => ?_) (fun c1 => ?_)
  · replace H := H.1 c1
    exact K _ _ H rM
  · replace H := H.2 c1
    refine And.intro (fun c2 => ?_) (fun c2 => ?_)
    · replace H := H.1 c2
      exact K _ _ H rM
    · replace H := H.2 c2
      exact K _ _ H rM
set_option maxRecDepth 100000 in
set_option maxHeartbeats 4000000 in
theorem mS_X3_letsToServer {R : z_Mem → Prop} (hR : y_mR R) {Q Post : Int32 → z_Mem → Prop} {a : Nat} {M : z_Mem} (H : P_X3_letsToServer a M Q) (rM : R M) (K : ∀ x M1, Q x M1 → R M1 → Post x M1) : P_X3_letsToServer a M Post := by
  unfold P_X3_letsToServer at H ⊢
  refine And.intro (fun c1 => ?_) (fun c1 => ?_)
  · replace H := H.1 c1
    exact K _ _ H rM
  · replace H := H.2 c1
    refine And.intro (fun c2 => ?_) (fun c2 => ?_)
    · replace H := H.1 c2
      refine mS_X3_hasRoom hR H rM (fun x_5 M_5 H rM_5 => ?_)
      exact K _ _ H rM_5
    · replace H := H.2 c2
      intro M_7 e_M_7
      replace H := H M_7 e_M_7
      have rM_7 : R M_7 := by rw [e_M_7]; exact (hR.sfi (by decide) rM)
      exact K _ _ H rM_7
set_option maxRecDepth 100000 in
set_option maxHeartbeats 4000000 in
theorem mS_X3_append {R : z_Mem → Prop} (hR : y_mR R) {Q Post : z_Mem → Prop} {a : Nat} {p1 : Option Nat} {M : z_Mem} (H : P_X3_append a p1 M Q) (rM : R M) (K : ∀ M1, Q M1 → R M1 → Post M1) : P_X3_append a p1 M Post := by
  unfold P_X3_append at H ⊢
  refine And.intro (fun c1 => ?_) (fun c1 => ?_)
  · replace H := H.1 c1
    exact K _ H rM
  · replace H := H.2 c1
    obtain ⟨a6, e_a6, H⟩ := H
    refine z_nn_of e_a6 ?_
    refine And.intro H.1 ?_
    replace H := H.2
    intro M_8 e_M_8
    replace H := H M_8 e_M_8
    have rM_8 : R M_8 := by rw [e_M_8]; exact (hR.sar rM)
    intro M_10 e_M_10
    replace H := H M_10 e_M_10
    have rM_10 : R M_10 := by rw [e_M_10]; exact (hR.sfi (by decide) rM_8)
    exact K _ H rM_10
set_option maxRecDepth 100000 in
set_option maxHeartbeats 4000000 in
theorem mS_X5_putToServer_49 {R : z_Mem → Prop} (hR : y_mR R) {Q Post : z_Mem → Prop} {a : Nat} {x2 : Option Nat} {x3 : Option Nat} {x4 : Int32} {t0 : Option Nat} {t1 : Int32} {M : z_Mem} (H : P_X5_putToServer_49 a Q x2 x3 x4 t0 t1 M) (rM : R M) (K : ∀ M1, Q M1 → R M1 → Post M1) : P_X5_putToServer_49 a Post x2 x3 x4 t0 t1 M := by
  unfold P_X5_putToServer_49 at H ⊢
  obtain ⟨a1, e_a1, H⟩ := H
  refine z_nn_of e_a1 ?_
  intro M_2 e_M_2
  replace H := H M_2 e_M_2
  have rM_2 : R M_2 := by rw [e_M_2]; exact (hR.sfi (by decide) rM)
  refine And.intro (fun c1 => ?_) (fun c1 => ?_)
  · replace H := H.1 c1
    obtain ⟨a7, e_a7, H⟩ := H
    refine z_nn_of e_a7 ?_
    obtain ⟨a9, e_a9, H⟩ := H
    refine z_nn_of e_a9 ?_
    intro M_10 e_M_10
    replace H := H M_10 e_M_10
    have rM_10 : R M_10 := by rw [e_M_10]; exact (hR.sfi (by decide) rM_2)
    refine And.intro (fun c2 => ?_) (fun c2 => ?_)
    · replace H := H.1 c2
      exact K _ H rM_10
    · replace H := H.2 c2
      obtain ⟨a13, e_a13, H⟩ := H
      refine z_nn_of e_a13 ?_
      refine mS_X3_append hR H rM_10 (fun M_12 H rM_12 => ?_)
      exact K _ H rM_12
  · replace H := H.2 c1
    refine And.intro (fun c3 => ?_) (fun c3 => ?_)
    · replace H := H.1 c3
      exact K _ H rM_2
    · replace H := H.2 c3
      obtain ⟨a6, e_a6, H⟩ := H
      refine z_nn_of e_a6 ?_
      refine mS_X3_append hR H rM_2 (fun M_5 H rM_5 => ?_)
      exact K _ H rM_5
set_option maxRecDepth 100000 in
set_option maxHeartbeats 4000000 in
theorem mS_X5_putToServer_48 {R : z_Mem → Prop} (hR : y_mR R) {Q Post : z_Mem → Prop} {a : Nat} {x2 : Option Nat} {x3 : Option Nat} {x4 : Int32} {t0 : Option Nat} {M : z_Mem} (H : P_X5_putToServer_48 a Q x2 x3 x4 t0 M) (rM : R M) (K : ∀ M1, Q M1 → R M1 → Post M1) : P_X5_putToServer_48 a Post x2 x3 x4 t0 M := by
  unfold P_X5_putToServer_48 at H ⊢
  exact mS_X5_putToServer_49 hR H rM K
set_option maxRecDepth 100000 in
set_option maxHeartbeats 4000000 in
theorem mS_X5_putToServer {R : z_Mem → Prop} (hR : y_mR R) {Q Post : z_Mem → Prop} {a : Nat} {p1 : Int32} {p2 : Option Nat} {M : z_Mem} (H : P_X5_putToServer a p1 p2 M Q) (rM : R M) (K : ∀ M1, Q M1 → R M1 → Post M1) : P_X5_putToServer a p1 p2 M Post := by
  unfold P_X5_putToServer at H ⊢
  refine mS_X5_laneOf hR H rM (fun x_14 M_14 H rM_14 => ?_)
  obtain ⟨a15, e_a15, H⟩ := H
  refine z_nn_of e_a15 ?_
  intro M_16 e_M_16
  replace H := H M_16 e_M_16
  have rM_16 : R M_16 := by rw [e_M_16]; exact (hR.sfi (by decide) rM_14)
  obtain ⟨a18, e_a18, H⟩ := H
  refine z_nn_of e_a18 ?_
  refine mS_X3_letsToServer hR H rM_16 (fun x_17 M_17 H rM_17 => ?_)
  refine And.intro (fun c1 => ?_) (fun a20 c1 => ?_)
  · replace H := H.1 c1
    refine And.intro (fun c2 => ?_) (fun c2 => ?_)
    · replace H := H.1 c2
      exact K _ H rM_17
    · replace H := H.2 c2
      refine mS_X3_append hR H rM_17 (fun M_22 H rM_22 => ?_)
      exact K _ H rM_22
  · replace H := H.2 a20 c1
    refine And.intro (fun c3 => ?_) (fun c3 => ?_)
    · replace H := H.1 c3
      exact mS_X5_putToServer_48 hR H rM_17 K
    · replace H := H.2 c3
      refine And.intro (fun c4 => ?_) (fun c4 => ?_)
      · replace H := H.1 c4
        exact mS_X5_putToServer_48 hR H rM_17 K
      · replace H := H.2 c4
        exact mS_X5_putToServer_49 hR H rM_17 K
set_option maxRecDepth 100000 in
set_option maxHeartbeats 4000000 in
theorem mS_X1_sayHello {R : z_Mem → Prop} (hR : y_mR R) {Q Post : z_Mem → Prop} {a : Nat} {M : z_Mem} (H : P_X1_sayHello a M Q) (rM : R M) (K : ∀ M1, Q M1 → R M1 → Post M1) : P_X1_sayHello a M Post := by
  unfold P_X1_sayHello at H ⊢
  intro M_2 e_M_2
  replace H := H M_2 e_M_2
  have rM_2 : R M_2 := by rw [e_M_2]; exact (hR.sfi (by decide) rM)
  obtain ⟨a4, e_a4, H⟩ := H
  refine z_nn_of e_a4 ?_
  intro M_6 e_M_6
  replace H := H M_6 e_M_6
  have rM_6 : R M_6 := by rw [e_M_6]; exact (hR.sfi (by decide) rM_2)
  refine And.intro H.1 ?_
  replace H := H.2
  intro M_8 e_M_8
  replace H := H M_8 e_M_8
  have rM_8 : R M_8 := by rw [e_M_8]; exact (hR.new rM_6)
  refine mS_X4_init hR H rM_8 (fun M_9 H rM_9 => ?_)
  intro M_11 e_M_11
  replace H := H M_11 e_M_11
  have rM_11 : R M_11 := by rw [e_M_11]; exact (hR.sfi (by decide) rM_9)
  intro M_13 e_M_13
  replace H := H M_13 e_M_13
  have rM_13 : R M_13 := by rw [e_M_13]; exact (hR.sfi (by decide) rM_11)
  obtain ⟨a16, e_a16, H⟩ := H
  refine z_nn_of e_a16 ?_
  refine mS_X5_putToServer hR H rM_13 (fun M_15 H rM_15 => ?_)
  exact K _ H rM_15
set_option maxRecDepth 100000 in
set_option maxHeartbeats 4000000 in
theorem mS_X1_beginHello {R : z_Mem → Prop} (hR : y_mR R) {Q Post : z_Mem → Prop} {a : Nat} {p1 : Int32} {M : z_Mem} (H : P_X1_beginHello a p1 M Q) (rM : R M) (K : ∀ M1, Q M1 → R M1 → Post M1) : P_X1_beginHello a p1 M Post := by
  unfold P_X1_beginHello at H ⊢
  intro M_1 e_M_1
  replace H := H M_1 e_M_1
  have rM_1 : R M_1 := by rw [e_M_1]; exact (hR.sfi (by decide) rM)
  intro M_2 e_M_2
  replace H := H M_2 e_M_2
  have rM_2 : R M_2 := by rw [e_M_2]; exact (hR.sfi (by decide) rM_1)
  refine mS_X1_sayHello hR H rM_2 (fun M_3 H rM_3 => ?_)
  exact K _ H rM_3
set_option maxRecDepth 100000 in
set_option maxHeartbeats 4000000 in
theorem mS_X1_isAcknowledged {R : z_Mem → Prop} (hR : y_mR R) {Q Post : Int32 → z_Mem → Prop} {p1 : Option Nat} {M : z_Mem} (H : P_X1_isAcknowledged p1 M Q) (rM : R M) (K : ∀ x M1, Q x M1 → R M1 → Post x M1) : P_X1_isAcknowledged p1 M Post := by
  unfold P_X1_isAcknowledged at H ⊢
  obtain ⟨a1, e_a1, H⟩ := H
  refine z_nn_of e_a1 ?_
  refine And.intro (fun c1 => ?_) (fun c1 => ?_)
  · replace H := H.1 c1
    exact K _ _ H rM
  · replace H := H.2 c1
    refine And.intro (fun c2 => ?_) (fun c2 => ?_)
    · replace H := H.1 c2
      exact K _ _ H rM
    · replace H := H.2 c2
      exact K _ _ H rM
set_option maxRecDepth 100000 in
set_option maxHeartbeats 4000000 in
theorem mS_X1_canChangeKey_42 {R : z_Mem → Prop} (hR : y_mR R) {Q Post : Int32 → z_Mem → Prop} {a : Nat} {x1 : Int32} {x2 : Int32} {QJ4 PJ4 : Int32 → Int32 → z_Mem → Prop} {M : z_Mem} (H : P_X1_canChangeKey_42 a Q QJ4 x1 x2 M) (rM : R M) (K : ∀ x M1, Q x M1 → R M1 → Post x M1) (KJ4 : ∀ v0 v1 M1, QJ4 v0 v1 M1 → R M1 → PJ4 v0 v1 M1) : P_X1_canChangeKey_42 a Post PJ4 x1 x2 M := by
  unfold P_X1_canChangeKey_42 at H ⊢
  intro x_1 e_x_1
  replace H := H x_1 e_x_1
  exact KJ4 _ _ _ H rM
set_option maxRecDepth 100000 in
set_option maxHeartbeats 4000000 in
theorem mS_X1_canChangeKey_4 {R : z_Mem → Prop} (hR : y_mR R) {Q Post : Int32 → z_Mem → Prop} {a : Nat} : ∀ (m : Nat) {x1 : Int32} {x2 : Int32} {M : z_Mem} (H : P_X1_canChangeKey_4 a Q m x1 x2 M) (rM : R M) (K : ∀ x M1, Q x M1 → R M1 → Post x M1), P_X1_canChangeKey_4 a Post m x1 x2 M := by
  intro m
  induction m with
  | zero => intros; rename_i H _ _; exact False.elim H
  | succ m ih =>
    intro x1 x2 M H rM K
    unfold P_X1_canChangeKey_4 at H ⊢
    refine And.intro (fun c1 => ?_) (fun c1 => ?_)
    · replace H := H.1 c1
      refine And.intro (fun c2 => ?_) (fun c2 => ?_)
      · replace H := H.1 c2
        refine And.intro (fun c3 => ?_) (fun c3 => ?_)
        · replace H := H.1 c3
          exact K _ _ H rM
        · replace H := H.2 c3
          exact K _ _ H rM
      · replace H := H.2 c2
        exact K _ _ H rM
    · replace H := H.2 c1
      refine mS_X1_packetAt hR H rM (fun x_7 M_7 H rM_7 => ?_)
      refine And.intro (fun c4 => ?_) (fun a8 c4 => ?_)
      · replace H := H.1 c4
        exact mS_X1_canChangeKey_42 hR H rM_7 K (fun v0 v1 M1 q u => ih q u K)
      · replace H := H.2 a8 c4
        refine And.intro (fun c5 => ?_) (fun c5 => ?_)
        · replace H := H.1 c5
          refine mS_X1_isAcknowledged hR H rM_7 (fun x_12 M_12 H rM_12 => ?_)
          refine And.intro (fun c6 => ?_) (fun c6 => ?_)
          · replace H := H.1 c6
            exact mS_X1_canChangeKey_42 hR H rM_12 K (fun v0 v1 M1 q u => ih q u K)
          · replace H := H.2 c6
            exact mS_X1_canChangeKey_42 hR H rM_12 K (fun v0 v1 M1 q u => ih q u K)
        · replace H := H.2 c5
          exact mS_X1_canChangeKey_42 hR H rM_7 K (fun v0 v1 M1 q u => ih q u K)
set_option maxRecDepth 100000 in
set_option maxHeartbeats 4000000 in
theorem mS_X1_canChangeKey {R : z_Mem → Prop} (hR : y_mR R) {Q Post : Int32 → z_Mem → Prop} {a : Nat} {M : z_Mem} (H : P_X1_canChangeKey a M Q) (rM : R M) (K : ∀ x M1, Q x M1 → R M1 → Post x M1) : P_X1_canChangeKey a M Post := by
  unfold P_X1_canChangeKey at H ⊢
  obtain ⟨m, H⟩ := H
  refine ⟨m, ?_⟩
  exact mS_X1_canChangeKey_4 hR m H rM K
set_option maxRecDepth 100000 in
set_option maxHeartbeats 4000000 in
theorem mS_X1_beginClosing {R : z_Mem → Prop} (hR : y_mR R) {Q Post : z_Mem → Prop} {a : Nat} {M : z_Mem} (H : P_X1_beginClosing a M Q) (rM : R M) (K : ∀ M1, Q M1 → R M1 → Post M1) : P_X1_beginClosing a M Post := by
  unfold P_X1_beginClosing at H ⊢
  intro M_1 e_M_1
  replace H := H M_1 e_M_1
  have rM_1 : R M_1 := by rw [e_M_1]; exact (hR.sfi (by decide) rM)
  obtain ⟨a3, e_a3, H⟩ := H
  refine z_nn_of e_a3 ?_
  intro M_5 e_M_5
  replace H := H M_5 e_M_5
  have rM_5 : R M_5 := by rw [e_M_5]; exact (hR.sfi (by decide) rM_1)
  refine And.intro (fun c1 => ?_) (fun c1 => ?_)
  · replace H := H.1 c1
    refine And.intro H.1 ?_
    replace H := H.2
    intro M_15 e_M_15
    replace H := H M_15 e_M_15
    have rM_15 : R M_15 := by rw [e_M_15]; exact (hR.new rM_5)
    refine mS_X4_init hR H rM_15 (fun M_16 H rM_16 => ?_)
    obtain ⟨a18, e_a18, H⟩ := H
    refine z_nn_of e_a18 ?_
    refine mS_X5_putToServer hR H rM_16 (fun M_17 H rM_17 => ?_)
    exact K _ H rM_17
  · replace H := H.2 c1
    refine And.intro H.1 ?_
    replace H := H.2
    intro M_10 e_M_10
    replace H := H M_10 e_M_10
    have rM_10 : R M_10 := by rw [e_M_10]; exact (hR.new rM_5)
    refine mS_X4_init hR H rM_10 (fun M_11 H rM_11 => ?_)
    obtain ⟨a13, e_a13, H⟩ := H
    refine z_nn_of e_a13 ?_
    refine mS_X5_putToServer hR H rM_11 (fun M_12 H rM_12 => ?_)
    exact K _ H rM_12
set_option maxRecDepth 100000 in
set_option maxHeartbeats 4000000 in
theorem mS_X10_takeDue_83 {R : z_Mem → Prop} (hR : y_mR R) {Q Post : Option Nat → z_Mem → Prop} {a : Nat} {x1 : Int32} {x2 : Int32} {QJ2 PJ2 : Int32 → Int32 → z_Mem → Prop} {M : z_Mem} (H : P_X10_takeDue_83 a Q QJ2 x1 x2 M) (rM : R M) (K : ∀ x M1, Q x M1 → R M1 → Post x M1) (KJ2 : ∀ v0 v1 M1, QJ2 v0 v1 M1 → R M1 → PJ2 v0 v1 M1) : P_X10_takeDue_83 a Post PJ2 x1 x2 M := by
  unfold P_X10_takeDue_83 at H ⊢
  intro x_1 e_x_1
  replace H := H x_1 e_x_1
  exact KJ2 _ _ _ H rM
set_option maxRecDepth 100000 in
set_option maxHeartbeats 4000000 in
theorem mS_X10_takeDue_2 {R : z_Mem → Prop} (hR : y_mR R) {Q Post : Option Nat → z_Mem → Prop} {a : Nat} : ∀ (m : Nat) {x1 : Int32} {x2 : Int32} {M : z_Mem} (H : P_X10_takeDue_2 a Q m x1 x2 M) (rM : R M) (K : ∀ x M1, Q x M1 → R M1 → Post x M1), P_X10_takeDue_2 a Post m x1 x2 M := by
  intro m
  induction m with
  | zero => intros; rename_i H _ _; exact False.elim H
  | succ m ih =>
    intro x1 x2 M H rM K
    unfold P_X10_takeDue_2 at H ⊢
    refine And.intro (fun c1 => ?_) (fun c1 => ?_)
    · replace H := H.1 c1
      exact K _ _ H rM
    · replace H := H.2 c1
      obtain ⟨a5, e_a5, H⟩ := H
      refine z_nn_of e_a5 ?_
      refine And.intro (fun c2 => ?_) (fun c2 => ?_)
      · replace H := H.1 c2
        exact K _ _ H rM
      · replace H := H.2 c2
        obtain ⟨a8, e_a8, H⟩ := H
        refine z_nn_of e_a8 ?_
        refine And.intro H.1 ?_
        replace H := H.2
        refine And.intro (fun c3 => ?_) (fun a10 c3 => ?_)
        · replace H := H.1 c3
          exact mS_X10_takeDue_83 hR H rM K (fun v0 v1 M1 q u => ih q u K)
        · replace H := H.2 a10 c3
          refine And.intro (fun c4 => ?_) (fun c4 => ?_)
          · replace H := H.1 c4
            obtain ⟨a16, e_a16, H⟩ := H
            refine z_nn_of e_a16 ?_
            refine And.intro H.1 ?_
            replace H := H.2
            refine And.intro H.1 ?_
            replace H := H.2
            refine And.intro H.1 ?_
            replace H := H.2
            refine And.intro H.1 ?_
            replace H := H.2
            refine And.intro H.1 ?_
            replace H := H.2
            intro M_18 e_M_18
            replace H := H M_18 e_M_18
            have rM_18 : R M_18 := by rw [e_M_18]; exact (hR.srr rM)
            intro M_20 e_M_20
            replace H := H M_20 e_M_20
            have rM_20 : R M_20 := by rw [e_M_20]; exact (hR.sfi (by decide) rM_18)
            obtain ⟨a23, e_a23, H⟩ := H
            refine z_nn_of e_a23 ?_
            refine And.intro H.1 ?_
            replace H := H.2
            intro M_25 e_M_25
            replace H := H M_25 e_M_25
            have rM_25 : R M_25 := by rw [e_M_25]; exact (hR.sar rM_20)
            exact K _ _ H rM_25
          · replace H := H.2 c4
            exact mS_X10_takeDue_83 hR H rM K (fun v0 v1 M1 q u => ih q u K)
set_option maxRecDepth 100000 in
set_option maxHeartbeats 4000000 in
theorem mS_X10_takeDue {R : z_Mem → Prop} (hR : y_mR R) {Q Post : Option Nat → z_Mem → Prop} {a : Nat} {p1 : Int32} {M : z_Mem} (H : P_X10_takeDue a p1 M Q) (rM : R M) (K : ∀ x M1, Q x M1 → R M1 → Post x M1) : P_X10_takeDue a p1 M Post := by
  unfold P_X10_takeDue at H ⊢
  obtain ⟨m, H⟩ := H
  refine ⟨m, ?_⟩
  exact mS_X10_takeDue_2 hR m H rM K
set_option maxRecDepth 100000 in
set_option maxHeartbeats 4000000 in
theorem mS_X7_measure {R : z_Mem → Prop} (hR : y_mR R) {Q Post : z_Mem → Prop} {a : Nat} {p1 : Int32} {M : z_Mem} (H : P_X7_measure a p1 M Q) (rM : R M) (K : ∀ M1, Q M1 → R M1 → Post M1) : P_X7_measure a p1 M Post := by
  unfold P_X7_measure at H ⊢
  intro M_1 e_M_1
  replace H := H M_1 e_M_1
  have rM_1 : R M_1 := by rw [e_M_1]; exact (hR.sfi (by decide) rM)
  refine And.intro (fun c1 => ?_) (fun c1 => ?_)
  · replace H := H.1 c1
    intro M_4 e_M_4
    replace H := H M_4 e_M_4
    have rM_4 : R M_4 := by rw [e_M_4]; exact (hR.sfi (by decide) rM_1)
    intro M_5 e_M_5
    replace H := H M_5 e_M_5
    have rM_5 : R M_5 := by rw [e_M_5]; exact (hR.sfi (by decide) rM_4)
    intro M_6 e_M_6
    replace H := H M_6 e_M_6
    have rM_6 : R M_6 := by rw [e_M_6]; exact (hR.sfi (by decide) rM_5)
    intro M_7 e_M_7
    replace H := H M_7 e_M_7
    have rM_7 : R M_7 := by rw [e_M_7]; exact (hR.sfi (by decide) rM_6)
    exact K _ H rM_7
  · replace H := H.2 c1
    intro M_9 e_M_9
    replace H := H M_9 e_M_9
    have rM_9 : R M_9 := by rw [e_M_9]; exact (hR.sfi (by decide) rM_1)
    intro M_13 e_M_13
    replace H := H M_13 e_M_13
    have rM_13 : R M_13 := by rw [e_M_13]; exact (hR.sfi (by decide) rM_9)
    intro M_16 e_M_16
    replace H := H M_16 e_M_16
    have rM_16 : R M_16 := by rw [e_M_16]; exact (hR.sfi (by decide) rM_13)
    exact K _ H rM_16
set_option maxRecDepth 100000 in
set_option maxHeartbeats 4000000 in
theorem mS_X9_isLost {R : z_Mem → Prop} (hR : y_mR R) {Q Post : Int32 → z_Mem → Prop} {a : Nat} {p1 : Int32} {M : z_Mem} (H : P_X9_isLost a p1 M Q) (rM : R M) (K : ∀ x M1, Q x M1 → R M1 → Post x M1) : P_X9_isLost a p1 M Post := by
  unfold P_X9_isLost at H ⊢
  refine And.intro (fun c1 => ?_) (fun c1 => ?_)
  · replace H := H.1 c1
    exact K _ _ H rM
  · replace H := H.2 c1
    refine And.intro (fun c2 => ?_) (fun c2 => ?_)
    · replace H := H.1 c2
      exact K _ _ H rM
    · replace H := H.2 c2
      refine And.intro (fun c3 => ?_) (fun c3 => ?_)
      · replace H := H.1 c3
        exact K _ _ H rM
      · replace H := H.2 c3
        obtain ⟨a6, e_a6, H⟩ := H
        refine z_nn_of e_a6 ?_
        refine And.intro H.1 ?_
        replace H := H.2
        refine And.intro (fun c4 => ?_) (fun c4 => ?_)
        · replace H := H.1 c4
          obtain ⟨a10, e_a10, H⟩ := H
          refine z_nn_of e_a10 ?_
          refine And.intro H.1 ?_
          replace H := H.2
          refine And.intro (fun c5 => ?_) (fun c5 => ?_)
          · replace H := H.1 c5
            exact K _ _ H rM
          · replace H := H.2 c5
            exact K _ _ H rM
        · replace H := H.2 c4
          exact K _ _ H rM
set_option maxRecDepth 100000 in
set_option maxHeartbeats 4000000 in
theorem mS_X9_acknowledge_64 {R : z_Mem → Prop} (hR : y_mR R) {Q Post : z_Mem → Prop} {a : Nat} {x1 : Int32} {x2 : Int32} {x3 : Int32} {QJ6 PJ6 : Int32 → Int32 → Int32 → z_Mem → Prop} {M : z_Mem} (H : P_X9_acknowledge_64 a Q QJ6 x1 x2 x3 M) (rM : R M) (K : ∀ M1, Q M1 → R M1 → Post M1) (KJ6 : ∀ v0 v1 v2 M1, QJ6 v0 v1 v2 M1 → R M1 → PJ6 v0 v1 v2 M1) : P_X9_acknowledge_64 a Post PJ6 x1 x2 x3 M := by
  unfold P_X9_acknowledge_64 at H ⊢
  intro x_1 e_x_1
  replace H := H x_1 e_x_1
  exact KJ6 _ _ _ _ H rM
set_option maxRecDepth 100000 in
set_option maxHeartbeats 4000000 in
theorem mS_X9_acknowledge_38 {R : z_Mem → Prop} (hR : y_mR R) {Q Post : z_Mem → Prop} {a : Nat} {x1 : Int32} {x2 : Int32} {x3 : Int32} {QJ6 PJ6 : Int32 → Int32 → Int32 → z_Mem → Prop} {M : z_Mem} (H : P_X9_acknowledge_38 a Q QJ6 x1 x2 x3 M) (rM : R M) (K : ∀ M1, Q M1 → R M1 → Post M1) (KJ6 : ∀ v0 v1 v2 M1, QJ6 v0 v1 v2 M1 → R M1 → PJ6 v0 v1 v2 M1) : P_X9_acknowledge_38 a Post PJ6 x1 x2 x3 M := by
  unfold P_X9_acknowledge_38 at H ⊢
  obtain ⟨a3, e_a3, H⟩ := H
  refine z_nn_of e_a3 ?_
  refine And.intro H.1 ?_
  replace H := H.2
  refine And.intro (fun c1 => ?_) (fun c1 => ?_)
  · replace H := H.1 c1
    obtain ⟨a7, e_a7, H⟩ := H
    refine z_nn_of e_a7 ?_
    refine And.intro H.1 ?_
    replace H := H.2
    intro M_9 e_M_9
    replace H := H M_9 e_M_9
    have rM_9 : R M_9 := by rw [e_M_9]; exact (hR.sai rM)
    intro M_11 e_M_11
    replace H := H M_11 e_M_11
    have rM_11 : R M_11 := by rw [e_M_11]; exact (hR.sfi (by decide) rM_9)
    exact mS_X9_acknowledge_64 hR H rM_11 K KJ6
  · replace H := H.2 c1
    exact mS_X9_acknowledge_64 hR H rM K KJ6
set_option maxRecDepth 100000 in
set_option maxHeartbeats 4000000 in
theorem mS_X9_acknowledge_6 {R : z_Mem → Prop} (hR : y_mR R) {Q Post : z_Mem → Prop} {a : Nat} : ∀ (m : Nat) {x1 : Int32} {x2 : Int32} {x3 : Int32} {M : z_Mem} (H : P_X9_acknowledge_6 a Q m x1 x2 x3 M) (rM : R M) (K : ∀ M1, Q M1 → R M1 → Post M1), P_X9_acknowledge_6 a Post m x1 x2 x3 M := by
  intro m
  induction m with
  | zero => intros; rename_i H _ _; exact False.elim H
  | succ m ih =>
    intro x1 x2 x3 M H rM K
    unfold P_X9_acknowledge_6 at H ⊢
    refine And.intro (fun c1 => ?_) (fun c1 => ?_)
    · replace H := H.1 c1
      exact K _ H rM
    · replace H := H.2 c1
      refine And.intro (fun c2 => ?_) (fun c2 => ?_)
      · replace H := H.1 c2
        exact K _ H rM
      · replace H := H.2 c2
        refine mS_X9_isLost hR H rM (fun x_14 M_14 H rM_14 => ?_)
        refine And.intro (fun c3 => ?_) (fun c3 => ?_)
        · replace H := H.1 c3
          exact mS_X9_acknowledge_38 hR H rM_14 K (fun v0 v1 v2 M1 q u => ih q u K)
        · replace H := H.2 c3
          intro M_17 e_M_17
          replace H := H M_17 e_M_17
          have rM_17 : R M_17 := by rw [e_M_17]; exact (hR.sfi (by decide) rM_14)
          exact mS_X9_acknowledge_38 hR H rM_17 K (fun v0 v1 v2 M1 q u => ih q u K)
set_option maxRecDepth 100000 in
set_option maxHeartbeats 4000000 in
theorem mS_X9_acknowledge {R : z_Mem → Prop} (hR : y_mR R) {Q Post : z_Mem → Prop} {a : Nat} {p1 : Int32} {p2 : Int32} {M : z_Mem} (H : P_X9_acknowledge a p1 p2 M Q) (rM : R M) (K : ∀ M1, Q M1 → R M1 → Post M1) : P_X9_acknowledge a p1 p2 M Post := by
  unfold P_X9_acknowledge at H ⊢
  intro x_18 e_x_18
  replace H := H x_18 e_x_18
  obtain ⟨m, H⟩ := H
  refine ⟨m, ?_⟩
  exact mS_X9_acknowledge_6 hR m H rM K
set_option maxRecDepth 100000 in
set_option maxHeartbeats 4000000 in
theorem mS_X9_land_48 {R : z_Mem → Prop} (hR : y_mR R) {Q Post : z_Mem → Prop} {a : Nat} {x1 : Int32} {x2 : Int32} {x3 : Int32} {QJ6 PJ6 : Int32 → Int32 → Int32 → z_Mem → Prop} {M : z_Mem} (H : P_X9_land_48 a Q QJ6 x1 x2 x3 M) (rM : R M) (K : ∀ M1, Q M1 → R M1 → Post M1) (KJ6 : ∀ v0 v1 v2 M1, QJ6 v0 v1 v2 M1 → R M1 → PJ6 v0 v1 v2 M1) : P_X9_land_48 a Post PJ6 x1 x2 x3 M := by
  unfold P_X9_land_48 at H ⊢
  intro x_1 e_x_1
  replace H := H x_1 e_x_1
  exact KJ6 _ _ _ _ H rM
set_option maxRecDepth 100000 in
set_option maxHeartbeats 4000000 in
theorem mS_X9_land_6 {R : z_Mem → Prop} (hR : y_mR R) {Q Post : z_Mem → Prop} {a : Nat} : ∀ (m : Nat) {x1 : Int32} {x2 : Int32} {x3 : Int32} {M : z_Mem} (H : P_X9_land_6 a Q m x1 x2 x3 M) (rM : R M) (K : ∀ M1, Q M1 → R M1 → Post M1), P_X9_land_6 a Post m x1 x2 x3 M := by
  intro m
  induction m with
  | zero => intros; rename_i H _ _; exact False.elim H
  | succ m ih =>
    intro x1 x2 x3 M H rM K
    unfold P_X9_land_6 at H ⊢
    refine And.intro (fun c1 => ?_) (fun c1 => ?_)
    · replace H := H.1 c1
      exact K _ H rM
    · replace H := H.2 c1
      refine And.intro (fun c2 => ?_) (fun c2 => ?_)
      · replace H := H.1 c2
        exact K _ H rM
      · replace H := H.2 c2
        obtain ⟨a5, e_a5, H⟩ := H
        refine z_nn_of e_a5 ?_
        refine And.intro H.1 ?_
        replace H := H.2
        refine And.intro H.1 ?_
        replace H := H.2
        intro M_8 e_M_8
        replace H := H M_8 e_M_8
        have rM_8 : R M_8 := by rw [e_M_8]; exact (hR.sai rM)
        refine mS_X9_isLost hR H rM_8 (fun x_9 M_9 H rM_9 => ?_)
        refine And.intro (fun c3 => ?_) (fun c3 => ?_)
        · replace H := H.1 c3
          exact mS_X9_land_48 hR H rM_9 K (fun v0 v1 v2 M1 q u => ih q u K)
        · replace H := H.2 c3
          intro M_12 e_M_12
          replace H := H M_12 e_M_12
          have rM_12 : R M_12 := by rw [e_M_12]; exact (hR.sfi (by decide) rM_9)
          exact mS_X9_land_48 hR H rM_12 K (fun v0 v1 v2 M1 q u => ih q u K)
set_option maxRecDepth 100000 in
set_option maxHeartbeats 4000000 in
theorem mS_X9_land {R : z_Mem → Prop} (hR : y_mR R) {Q Post : z_Mem → Prop} {a : Nat} {p1 : Int32} {p2 : Int32} {M : z_Mem} (H : P_X9_land a p1 p2 M Q) (rM : R M) (K : ∀ M1, Q M1 → R M1 → Post M1) : P_X9_land a p1 p2 M Post := by
  unfold P_X9_land at H ⊢
  intro x_13 e_x_13
  replace H := H x_13 e_x_13
  obtain ⟨m, H⟩ := H
  refine ⟨m, ?_⟩
  exact mS_X9_land_6 hR m H rM K
set_option maxRecDepth 100000 in
set_option maxHeartbeats 4000000 in
theorem mS_X1_leaveFlight_62 {R : z_Mem → Prop} (hR : y_mR R) {Q Post : z_Mem → Prop} {a : Nat} {x1 : Option Nat} {M : z_Mem} (H : P_X1_leaveFlight_62 a Q x1 M) (rM : R M) (K : ∀ M1, Q M1 → R M1 → Post M1) : P_X1_leaveFlight_62 a Post x1 M := by
  unfold P_X1_leaveFlight_62 at H ⊢
  obtain ⟨a2, e_a2, H⟩ := H
  refine z_nn_of e_a2 ?_
  obtain ⟨a4, e_a4, H⟩ := H
  refine z_nn_of e_a4 ?_
  refine And.intro H.1 ?_
  replace H := H.2
  obtain ⟨a9, e_a9, H⟩ := H
  refine z_nn_of e_a9 ?_
  refine mS_X9_land hR H rM (fun M_8 H rM_8 => ?_)
  exact K _ H rM_8
set_option maxRecDepth 100000 in
set_option maxHeartbeats 4000000 in
theorem mS_X1_leaveFlight {R : z_Mem → Prop} (hR : y_mR R) {Q Post : z_Mem → Prop} {a : Nat} {p1 : Option Nat} {p2 : Int32} {M : z_Mem} (H : P_X1_leaveFlight a p1 p2 M Q) (rM : R M) (K : ∀ M1, Q M1 → R M1 → Post M1) : P_X1_leaveFlight a p1 p2 M Post := by
  unfold P_X1_leaveFlight at H ⊢
  obtain ⟨a10, e_a10, H⟩ := H
  refine z_nn_of e_a10 ?_
  intro M_11 e_M_11
  replace H := H M_11 e_M_11
  have rM_11 : R M_11 := by rw [e_M_11]; exact (hR.sfi (by decide) rM)
  refine mS_X1_routeOf hR H rM_11 (fun x_13 M_13 H rM_13 => ?_)
  obtain ⟨a14, e_a14, H⟩ := H
  refine z_nn_of e_a14 ?_
  intro M_16 e_M_16
  replace H := H M_16 e_M_16
  have rM_16 : R M_16 := by rw [e_M_16]; exact (hR.sfi (by decide) rM_13)
  refine And.intro (fun c1 => ?_) (fun c1 => ?_)
  · replace H := H.1 c1
    exact K _ H rM_16
  · replace H := H.2 c1
    refine And.intro (fun c2 => ?_) (fun c2 => ?_)
    · replace H := H.1 c2
      exact K _ H rM_16
    · replace H := H.2 c2
      refine And.intro (fun c3 => ?_) (fun c3 => ?_)
      · replace H := H.1 c3
        obtain ⟨a24, e_a24, H⟩ := H
        refine z_nn_of e_a24 ?_
        refine And.intro H.1 ?_
        replace H := H.2
        obtain ⟨a29, e_a29, H⟩ := H
        refine z_nn_of e_a29 ?_
        refine mS_X9_acknowledge hR H rM_16 (fun M_28 H rM_28 => ?_)
        exact mS_X1_leaveFlight_62 hR H rM_28 K
      · replace H := H.2 c3
        exact mS_X1_leaveFlight_62 hR H rM_16 K
set_option maxRecDepth 100000 in
set_option maxHeartbeats 4000000 in
theorem mS_X1_hearAccept_71 {R : z_Mem → Prop} (hR : y_mR R) {Q Post : z_Mem → Prop} {a : Nat} {x1 : Int32} {x2 : Int32} {QJ29 PJ29 : Int32 → Int32 → z_Mem → Prop} {M : z_Mem} (H : P_X1_hearAccept_71 a Q QJ29 x1 x2 M) (rM : R M) (K : ∀ M1, Q M1 → R M1 → Post M1) (KJ29 : ∀ v0 v1 M1, QJ29 v0 v1 M1 → R M1 → PJ29 v0 v1 M1) : P_X1_hearAccept_71 a Post PJ29 x1 x2 M := by
  unfold P_X1_hearAccept_71 at H ⊢
  intro x_1 e_x_1
  replace H := H x_1 e_x_1
  exact KJ29 _ _ _ H rM
set_option maxRecDepth 100000 in
set_option maxHeartbeats 4000000 in
theorem mS_X1_hearAccept_29 {R : z_Mem → Prop} (hR : y_mR R) {Q Post : z_Mem → Prop} {a : Nat} : ∀ (m : Nat) {x1 : Int32} {x2 : Int32} {M : z_Mem} (H : P_X1_hearAccept_29 a Q m x1 x2 M) (rM : R M) (K : ∀ M1, Q M1 → R M1 → Post M1), P_X1_hearAccept_29 a Post m x1 x2 M := by
  intro m
  induction m with
  | zero => intros; rename_i H _ _; exact False.elim H
  | succ m ih =>
    intro x1 x2 M H rM K
    unfold P_X1_hearAccept_29 at H ⊢
    refine And.intro (fun c1 => ?_) (fun c1 => ?_)
    · replace H := H.1 c1
      exact K _ H rM
    · replace H := H.2 c1
      refine And.intro (fun c2 => ?_) (fun c2 => ?_)
      · replace H := H.1 c2
        refine mS_X1_packetAt hR H rM (fun x_5 M_5 H rM_5 => ?_)
        refine And.intro (fun c3 => ?_) (fun a6 c3 => ?_)
        · replace H := H.1 c3
          exact mS_X1_hearAccept_71 hR H rM_5 K (fun v0 v1 M1 q u => ih q u K)
        · replace H := H.2 a6 c3
          refine And.intro (fun c4 => ?_) (fun c4 => ?_)
          · replace H := H.1 c4
            exact mS_X1_hearAccept_71 hR H rM_5 K (fun v0 v1 M1 q u => ih q u K)
          · replace H := H.2 c4
            refine And.intro (fun c5 => ?_) (fun c5 => ?_)
            · replace H := H.1 c5
              refine mS_X1_leaveFlight hR H rM_5 (fun M_11 H rM_11 => ?_)
              exact mS_X1_hearAccept_71 hR H rM_11 K (fun v0 v1 M1 q u => ih q u K)
            · replace H := H.2 c5
              exact mS_X1_hearAccept_71 hR H rM_5 K (fun v0 v1 M1 q u => ih q u K)
      · replace H := H.2 c2
        exact K _ H rM
set_option maxRecDepth 100000 in
set_option maxHeartbeats 4000000 in
theorem mS_X1_hearAccept {R : z_Mem → Prop} (hR : y_mR R) {Q Post : z_Mem → Prop} {a : Nat} {p1 : Int32} {M : z_Mem} (H : P_X1_hearAccept a p1 M Q) (rM : R M) (K : ∀ M1, Q M1 → R M1 → Post M1) : P_X1_hearAccept a p1 M Post := by
  unfold P_X1_hearAccept at H ⊢
  intro M_12 e_M_12
  replace H := H M_12 e_M_12
  have rM_12 : R M_12 := by rw [e_M_12]; exact (hR.sfi (by decide) rM)
  obtain ⟨a15, e_a15, H⟩ := H
  refine z_nn_of e_a15 ?_
  obtain ⟨a19, e_a19, H⟩ := H
  refine z_nn_of e_a19 ?_
  refine mS_X7_measure hR H rM_12 (fun M_18 H rM_18 => ?_)
  intro x_21 e_x_21
  replace H := H x_21 e_x_21
  obtain ⟨m, H⟩ := H
  refine ⟨m, ?_⟩
  exact mS_X1_hearAccept_29 hR m H rM_18 K
set_option maxRecDepth 100000 in
set_option maxHeartbeats 4000000 in
theorem mS_X2_keepRate {R : z_Mem → Prop} (hR : y_mR R) {Q Post : z_Mem → Prop} {a : Nat} {p1 : Int32} {M : z_Mem} (H : P_X2_keepRate a p1 M Q) (rM : R M) (K : ∀ M1, Q M1 → R M1 → Post M1) : P_X2_keepRate a p1 M Post := by
  unfold P_X2_keepRate at H ⊢
  obtain ⟨a3, e_a3, H⟩ := H
  refine z_nn_of e_a3 ?_
  refine And.intro H.1 ?_
  replace H := H.2
  intro M_5 e_M_5
  replace H := H M_5 e_M_5
  have rM_5 : R M_5 := by rw [e_M_5]; exact (hR.sai rM)
  intro M_7 e_M_7
  replace H := H M_7 e_M_7
  have rM_7 : R M_7 := by rw [e_M_7]; exact (hR.sfi (by decide) rM_5)
  exact K _ H rM_7
set_option maxRecDepth 100000 in
set_option maxHeartbeats 4000000 in
theorem mS_X2_greatestRate_13 {R : z_Mem → Prop} (hR : y_mR R) {Q Post : Int32 → z_Mem → Prop} {a : Nat} : ∀ (m : Nat) {x1 : Int32} {x2 : Option Nat} {x3 : Int32} {x4 : Int32} {M : z_Mem} (H : P_X2_greatestRate_13 a Q m x1 x2 x3 x4 M) (rM : R M) (K : ∀ x M1, Q x M1 → R M1 → Post x M1), P_X2_greatestRate_13 a Post m x1 x2 x3 x4 M := by
  intro m
  induction m with
  | zero => intros; rename_i H _ _; exact False.elim H
  | succ m ih =>
    intro x1 x2 x3 x4 M H rM K
    unfold P_X2_greatestRate_13 at H ⊢
    refine And.intro (fun c1 => ?_) (fun c1 => ?_)
    · replace H := H.1 c1
      exact K _ _ H rM
    · replace H := H.2 c1
      obtain ⟨a2, e_a2, H⟩ := H
      refine z_nn_of e_a2 ?_
      refine And.intro H.1 ?_
      replace H := H.2
      intro x_4 e_x_4
      replace H := H x_4 e_x_4
      intro x_5 e_x_5
      replace H := H x_5 e_x_5
      intro x_6 e_x_6
      replace H := H x_6 e_x_6
      exact ih H rM K
set_option maxRecDepth 100000 in
set_option maxHeartbeats 4000000 in
theorem mS_X2_greatestRate {R : z_Mem → Prop} (hR : y_mR R) {Q Post : Int32 → z_Mem → Prop} {a : Nat} {M : z_Mem} (H : P_X2_greatestRate a M Q) (rM : R M) (K : ∀ x M1, Q x M1 → R M1 → Post x M1) : P_X2_greatestRate a M Post := by
  unfold P_X2_greatestRate at H ⊢
  obtain ⟨a8, e_a8, H⟩ := H
  refine z_nn_of e_a8 ?_
  intro x_9 e_x_9
  replace H := H x_9 e_x_9
  obtain ⟨m, H⟩ := H
  refine ⟨m, ?_⟩
  exact mS_X2_greatestRate_13 hR m H rM K
set_option maxRecDepth 100000 in
set_option maxHeartbeats 4000000 in
theorem mS_X2_cubeStep_56 {R : z_Mem → Prop} (hR : y_mR R) {Q Post : Int32 → z_Mem → Prop} {a : Nat} {x1 : Int32} {x4 : Int64} {M : z_Mem} (H : P_X2_cubeStep_56 a Q x1 x4 M) (rM : R M) (K : ∀ x M1, Q x M1 → R M1 → Post x M1) : P_X2_cubeStep_56 a Post x1 x4 M := by
  unfold P_X2_cubeStep_56 at H ⊢
  intro x_2 e_x_2
  replace H := H x_2 e_x_2
  intro x_4 e_x_4
  replace H := H x_4 e_x_4
  refine And.intro H.1 ?_
  replace H := H.2
  exact K _ _ H rM
set_option maxRecDepth 100000 in
set_option maxHeartbeats 4000000 in
theorem mS_X2_cubeStep_17 {R : z_Mem → Prop} (hR : y_mR R) {Q Post : Int32 → z_Mem → Prop} {a : Nat} : ∀ (m : Nat) {x1 : Int32} {x2 : Int64} {x4 : Int64} {M : z_Mem} (H : P_X2_cubeStep_17 a Q m x1 x2 x4 M) (rM : R M) (K : ∀ x M1, Q x M1 → R M1 → Post x M1), P_X2_cubeStep_17 a Post m x1 x2 x4 M := by
  intro m
  induction m with
  | zero => intros; rename_i H _ _; exact False.elim H
  | succ m ih =>
    intro x1 x2 x4 M H rM K
    unfold P_X2_cubeStep_17 at H ⊢
    refine And.intro (fun c1 => ?_) (fun c1 => ?_)
    · replace H := H.1 c1
      exact mS_X2_cubeStep_56 hR H rM K
    · replace H := H.2 c1
      refine And.intro (fun c2 => ?_) (fun c2 => ?_)
      · replace H := H.1 c2
        exact mS_X2_cubeStep_56 hR H rM K
      · replace H := H.2 c2
        intro x_10 e_x_10
        replace H := H x_10 e_x_10
        exact ih H rM K
set_option maxRecDepth 100000 in
set_option maxHeartbeats 4000000 in
theorem mS_X2_cubeStep {R : z_Mem → Prop} (hR : y_mR R) {Q Post : Int32 → z_Mem → Prop} {a : Nat} {p1 : Int32} {M : z_Mem} (H : P_X2_cubeStep a p1 M Q) (rM : R M) (K : ∀ x M1, Q x M1 → R M1 → Post x M1) : P_X2_cubeStep a p1 M Post := by
  unfold P_X2_cubeStep at H ⊢
  intro x_12 e_x_12
  replace H := H x_12 e_x_12
  obtain ⟨m, H⟩ := H
  refine ⟨m, ?_⟩
  exact mS_X2_cubeStep_17 hR m H rM K
set_option maxRecDepth 100000 in
set_option maxHeartbeats 4000000 in
theorem mS_X2_grow {R : z_Mem → Prop} (hR : y_mR R) {Q Post : z_Mem → Prop} {a : Nat} {p1 : Int32} {p2 : Int32} {p3 : Int32} {p4 : Int32} {M : z_Mem} (H : P_X2_grow a p1 p2 p3 p4 M Q) (rM : R M) (K : ∀ M1, Q M1 → R M1 → Post M1) : P_X2_grow a p1 p2 p3 p4 M Post := by
  unfold P_X2_grow at H ⊢
  refine And.intro (fun c1 => ?_) (fun c1 => ?_)
  · replace H := H.1 c1
    refine And.intro H.1 ?_
    replace H := H.2
    refine mS_X2_keepRate hR H rM (fun M_18 H rM_18 => ?_)
    refine mS_X2_greatestRate hR H rM_18 (fun x_19 M_19 H rM_19 => ?_)
    intro M_20 e_M_20
    replace H := H M_20 e_M_20
    have rM_20 : R M_20 := by rw [e_M_20]; exact (hR.sfi (by decide) rM_19)
    exact K _ H rM_20
  · replace H := H.2 c1
    refine And.intro (fun c2 => ?_) (fun c2 => ?_)
    · replace H := H.1 c2
      refine And.intro (fun c3 => ?_) (fun c3 => ?_)
      · replace H := H.1 c3
        refine And.intro H.1 ?_
        replace H := H.2
        intro M_14 e_M_14
        replace H := H M_14 e_M_14
        have rM_14 : R M_14 := by rw [e_M_14]; exact (hR.sfi (by decide) rM)
        exact K _ H rM_14
      · replace H := H.2 c3
        refine mS_X2_cubeStep hR H rM (fun x_9 M_9 H rM_9 => ?_)
        intro M_10 e_M_10
        replace H := H M_10 e_M_10
        have rM_10 : R M_10 := by rw [e_M_10]; exact (hR.sfi (by decide) rM_9)
        exact K _ H rM_10
    · replace H := H.2 c2
      intro M_16 e_M_16
      replace H := H M_16 e_M_16
      have rM_16 : R M_16 := by rw [e_M_16]; exact (hR.sfi (by decide) rM)
      exact K _ H rM_16
set_option maxRecDepth 100000 in
set_option maxHeartbeats 4000000 in
theorem mS_X2_takeBackHarm {R : z_Mem → Prop} (hR : y_mR R) {Q Post : z_Mem → Prop} {a : Nat} {p1 : Int32} {M : z_Mem} (H : P_X2_takeBackHarm a p1 M Q) (rM : R M) (K : ∀ M1, Q M1 → R M1 → Post M1) : P_X2_takeBackHarm a p1 M Post := by
  unfold P_X2_takeBackHarm at H ⊢
  refine And.intro (fun c1 => ?_) (fun c1 => ?_)
  · replace H := H.1 c1
    intro M_3 e_M_3
    replace H := H M_3 e_M_3
    have rM_3 : R M_3 := by rw [e_M_3]; exact (hR.sfi (by decide) rM)
    intro M_6 e_M_6
    replace H := H M_6 e_M_6
    have rM_6 : R M_6 := by rw [e_M_6]; exact (hR.sfi (by decide) rM_3)
    intro M_9 e_M_9
    replace H := H M_9 e_M_9
    have rM_9 : R M_9 := by rw [e_M_9]; exact (hR.sfi (by decide) rM_6)
    exact K _ H rM_9
  · replace H := H.2 c1
    exact K _ H rM
set_option maxRecDepth 100000 in
set_option maxHeartbeats 4000000 in
theorem mS_X1_acknowledge {R : z_Mem → Prop} (hR : y_mR R) {Q Post : z_Mem → Prop} {a : Nat} {p1 : Option Nat} {M : z_Mem} (H : P_X1_acknowledge a p1 M Q) (rM : R M) (K : ∀ M1, Q M1 → R M1 → Post M1) : P_X1_acknowledge a p1 M Post := by
  unfold P_X1_acknowledge at H ⊢
  refine And.intro (fun c1 => ?_) (fun a1 c1 => ?_)
  · replace H := H.1 c1
    exact K _ H rM
  · replace H := H.2 a1 c1
    refine mS_X1_routeOf hR H rM (fun x_3 M_3 H rM_3 => ?_)
    refine And.intro (fun c2 => ?_) (fun c2 => ?_)
    · replace H := H.1 c2
      refine mS_X1_leaveFlight hR H rM_3 (fun M_36 H rM_36 => ?_)
      obtain ⟨a37, e_a37, H⟩ := H
      refine z_nn_of e_a37 ?_
      intro M_39 e_M_39
      replace H := H M_39 e_M_39
      have rM_39 : R M_39 := by rw [e_M_39]; exact (hR.sfi (by decide) rM_36)
      intro x_42 e_x_42
      replace H := H x_42 e_x_42
      obtain ⟨a45, e_a45, H⟩ := H
      refine z_nn_of e_a45 ?_
      obtain ⟨a48, e_a48, H⟩ := H
      refine z_nn_of e_a48 ?_
      obtain ⟨a53, e_a53, H⟩ := H
      refine z_nn_of e_a53 ?_
      refine mS_X2_grow hR H rM_39 (fun M_52 H rM_52 => ?_)
      intro M_56 e_M_56
      replace H := H M_56 e_M_56
      have rM_56 : R M_56 := by rw [e_M_56]; exact (hR.sfi (by decide) rM_52)
      exact K _ H rM_56
    · replace H := H.2 c2
      refine And.intro (fun c3 => ?_) (fun c3 => ?_)
      · replace H := H.1 c3
        intro M_8 e_M_8
        replace H := H M_8 e_M_8
        have rM_8 : R M_8 := by rw [e_M_8]; exact (hR.sfi (by decide) rM_3)
        obtain ⟨a9, e_a9, H⟩ := H
        refine z_nn_of e_a9 ?_
        intro M_11 e_M_11
        replace H := H M_11 e_M_11
        have rM_11 : R M_11 := by rw [e_M_11]; exact (hR.sfi (by decide) rM_8)
        refine And.intro (fun c4 => ?_) (fun c4 => ?_)
        · replace H := H.1 c4
          obtain ⟨a17, e_a17, H⟩ := H
          refine z_nn_of e_a17 ?_
          refine mS_X2_takeBackHarm hR H rM_11 (fun M_16 H rM_16 => ?_)
          exact K _ H rM_16
        · replace H := H.2 c4
          refine And.intro (fun c5 => ?_) (fun c5 => ?_)
          · replace H := H.1 c5
            obtain ⟨a23, e_a23, H⟩ := H
            refine z_nn_of e_a23 ?_
            refine mS_X2_takeBackHarm hR H rM_11 (fun M_22 H rM_22 => ?_)
            exact K _ H rM_22
          · replace H := H.2 c5
            obtain ⟨a26, e_a26, H⟩ := H
            refine z_nn_of e_a26 ?_
            refine And.intro H.1 ?_
            replace H := H.2
            obtain ⟨a31, e_a31, H⟩ := H
            refine z_nn_of e_a31 ?_
            refine mS_X9_acknowledge hR H rM_11 (fun M_30 H rM_30 => ?_)
            obtain ⟨a35, e_a35, H⟩ := H
            refine z_nn_of e_a35 ?_
            refine mS_X2_takeBackHarm hR H rM_30 (fun M_34 H rM_34 => ?_)
            exact K _ H rM_34
      · replace H := H.2 c3
        exact K _ H rM_3
set_option maxRecDepth 100000 in
set_option maxHeartbeats 4000000 in
theorem mS_X2_harm {R : z_Mem → Prop} (hR : y_mR R) {Q Post : z_Mem → Prop} {a : Nat} {p1 : Int32} {p2 : Int32} {p3 : Int32} {p4 : Int32} {M : z_Mem} (H : P_X2_harm a p1 p2 p3 p4 M Q) (rM : R M) (K : ∀ M1, Q M1 → R M1 → Post M1) : P_X2_harm a p1 p2 p3 p4 M Post := by
  unfold P_X2_harm at H ⊢
  refine And.intro (fun c1 => ?_) (fun c1 => ?_)
  · replace H := H.1 c1
    intro M_4 e_M_4
    replace H := H M_4 e_M_4
    have rM_4 : R M_4 := by rw [e_M_4]; exact (hR.sfi (by decide) rM)
    intro M_6 e_M_6
    replace H := H M_6 e_M_6
    have rM_6 : R M_6 := by rw [e_M_6]; exact (hR.sfi (by decide) rM_4)
    intro M_8 e_M_8
    replace H := H M_8 e_M_8
    have rM_8 : R M_8 := by rw [e_M_8]; exact (hR.sfi (by decide) rM_6)
    intro M_9 e_M_9
    replace H := H M_9 e_M_9
    have rM_9 : R M_9 := by rw [e_M_9]; exact (hR.sfi (by decide) rM_8)
    intro M_10 e_M_10
    replace H := H M_10 e_M_10
    have rM_10 : R M_10 := by rw [e_M_10]; exact (hR.sfi (by decide) rM_9)
    intro M_11 e_M_11
    replace H := H M_11 e_M_11
    have rM_11 : R M_11 := by rw [e_M_11]; exact (hR.sfi (by decide) rM_10)
    refine And.intro (fun c2 => ?_) (fun c2 => ?_)
    · replace H := H.1 c2
      exact K _ H rM_11
    · replace H := H.2 c2
      refine And.intro (fun c3 => ?_) (fun c3 => ?_)
      · replace H := H.1 c3
        intro M_21 e_M_21
        replace H := H M_21 e_M_21
        have rM_21 : R M_21 := by rw [e_M_21]; exact (hR.sfi (by decide) rM_11)
        intro M_23 e_M_23
        replace H := H M_23 e_M_23
        have rM_23 : R M_23 := by rw [e_M_23]; exact (hR.sfi (by decide) rM_21)
        exact K _ H rM_23
      · replace H := H.2 c3
        intro M_17 e_M_17
        replace H := H M_17 e_M_17
        have rM_17 : R M_17 := by rw [e_M_17]; exact (hR.sfi (by decide) rM_11)
        intro M_19 e_M_19
        replace H := H M_19 e_M_19
        have rM_19 : R M_19 := by rw [e_M_19]; exact (hR.sfi (by decide) rM_17)
        exact K _ H rM_19
  · replace H := H.2 c1
    exact K _ H rM
set_option maxRecDepth 100000 in
set_option maxHeartbeats 4000000 in
theorem mS_X1_hearOfGreatest_31 {R : z_Mem → Prop} (hR : y_mR R) {Q Post : z_Mem → Prop} {a : Nat} {x1 : Option Nat} {x3 : Int32} {x4 : Option Nat} {M : z_Mem} (H : P_X1_hearOfGreatest_31 a Q x1 x3 x4 M) (rM : R M) (K : ∀ M1, Q M1 → R M1 → Post M1) : P_X1_hearOfGreatest_31 a Post x1 x3 x4 M := by
  unfold P_X1_hearOfGreatest_31 at H ⊢
  refine And.intro (fun c1 => ?_) (fun c1 => ?_)
  · replace H := H.1 c1
    exact K _ H rM
  · replace H := H.2 c1
    intro M_3 e_M_3
    replace H := H M_3 e_M_3
    have rM_3 : R M_3 := by rw [e_M_3]; exact (hR.sfi (by decide) rM)
    obtain ⟨a4, e_a4, H⟩ := H
    refine z_nn_of e_a4 ?_
    obtain ⟨a6, e_a6, H⟩ := H
    refine z_nn_of e_a6 ?_
    obtain ⟨a10, e_a10, H⟩ := H
    refine z_nn_of e_a10 ?_
    obtain ⟨a13, e_a13, H⟩ := H
    refine z_nn_of e_a13 ?_
    refine mS_X2_harm hR H rM_3 (fun M_12 H rM_12 => ?_)
    exact K _ H rM_12
set_option maxRecDepth 100000 in
set_option maxHeartbeats 4000000 in
theorem mS_X1_hearOfGreatest {R : z_Mem → Prop} (hR : y_mR R) {Q Post : z_Mem → Prop} {a : Nat} {p1 : Option Nat} {p2 : Int32} {p3 : Int32} {M : z_Mem} (H : P_X1_hearOfGreatest a p1 p2 p3 M Q) (rM : R M) (K : ∀ M1, Q M1 → R M1 → Post M1) : P_X1_hearOfGreatest a p1 p2 p3 M Post := by
  unfold P_X1_hearOfGreatest at H ⊢
  obtain ⟨a14, e_a14, H⟩ := H
  refine z_nn_of e_a14 ?_
  refine mS_X1_routeOf hR H rM (fun x_16 M_16 H rM_16 => ?_)
  refine And.intro (fun c1 => ?_) (fun c1 => ?_)
  · replace H := H.1 c1
    exact mS_X1_hearOfGreatest_31 hR H rM_16 K
  · replace H := H.2 c1
    obtain ⟨a19, e_a19, H⟩ := H
    refine z_nn_of e_a19 ?_
    obtain ⟨a23, e_a23, H⟩ := H
    refine z_nn_of e_a23 ?_
    refine mS_X7_measure hR H rM_16 (fun M_22 H rM_22 => ?_)
    exact mS_X1_hearOfGreatest_31 hR H rM_22 K
set_option maxRecDepth 100000 in
set_option maxHeartbeats 4000000 in
theorem mS_X1_takeCredits_2 {R : z_Mem → Prop} (hR : y_mR R) {Q Post : z_Mem → Prop} {a : Nat} : ∀ (m : Nat) {x1 : Option Nat} {x2 : Int32} {M : z_Mem} (H : P_X1_takeCredits_2 a Q m x1 x2 M) (rM : R M) (K : ∀ M1, Q M1 → R M1 → Post M1), P_X1_takeCredits_2 a Post m x1 x2 M := by
  intro m
  induction m with
  | zero => intros; rename_i H _ _; exact False.elim H
  | succ m ih =>
    intro x1 x2 M H rM K
    unfold P_X1_takeCredits_2 at H ⊢
    refine And.intro (fun c1 => ?_) (fun c1 => ?_)
    · replace H := H.1 c1
      obtain ⟨a3, e_a3, H⟩ := H
      refine z_nn_of e_a3 ?_
      intro M_5 e_M_5
      replace H := H M_5 e_M_5
      have rM_5 : R M_5 := by rw [e_M_5]; exact (hR.sfi (by decide) rM)
      exact K _ H rM_5
    · replace H := H.2 c1
      obtain ⟨a7, e_a7, H⟩ := H
      refine z_nn_of e_a7 ?_
      refine And.intro H.1 ?_
      replace H := H.2
      obtain ⟨a10, e_a10, H⟩ := H
      refine z_nn_of e_a10 ?_
      refine And.intro H.1 ?_
      replace H := H.2
      obtain ⟨a12, e_a12, H⟩ := H
      refine z_nn_of e_a12 ?_
      obtain ⟨a14, e_a14, H⟩ := H
      refine z_nn_of e_a14 ?_
      obtain ⟨a16, e_a16, H⟩ := H
      refine z_nn_of e_a16 ?_
      refine And.intro H.1 ?_
      replace H := H.2
      obtain ⟨a18, e_a18, H⟩ := H
      refine z_nn_of e_a18 ?_
      intro M_19 e_M_19
      replace H := H M_19 e_M_19
      have rM_19 : R M_19 := by rw [e_M_19]; exact (hR.sfi (by decide) rM)
      intro x_20 e_x_20
      replace H := H x_20 e_x_20
      exact ih H rM_19 K
set_option maxRecDepth 100000 in
set_option maxHeartbeats 4000000 in
theorem mS_X1_takeCredits {R : z_Mem → Prop} (hR : y_mR R) {Q Post : z_Mem → Prop} {a : Nat} {p1 : Option Nat} {M : z_Mem} (H : P_X1_takeCredits a p1 M Q) (rM : R M) (K : ∀ M1, Q M1 → R M1 → Post M1) : P_X1_takeCredits a p1 M Post := by
  unfold P_X1_takeCredits at H ⊢
  obtain ⟨m, H⟩ := H
  refine ⟨m, ?_⟩
  exact mS_X1_takeCredits_2 hR m H rM K
set_option maxRecDepth 100000 in
set_option maxHeartbeats 4000000 in
theorem mS_X1_lowestInFlight_108 {R : z_Mem → Prop} (hR : y_mR R) {Q Post : Option Nat → z_Mem → Prop} {a : Nat} {x1 : Option Nat} {x3 : Int32} {QJ58 PJ58 : Option Nat → Int32 → z_Mem → Prop} {M : z_Mem} (H : P_X1_lowestInFlight_108 a Q QJ58 x1 x3 M) (rM : R M) (K : ∀ x M1, Q x M1 → R M1 → Post x M1) (KJ58 : ∀ v0 v1 M1, QJ58 v0 v1 M1 → R M1 → PJ58 v0 v1 M1) : P_X1_lowestInFlight_108 a Post PJ58 x1 x3 M := by
  unfold P_X1_lowestInFlight_108 at H ⊢
  intro x_1 e_x_1
  replace H := H x_1 e_x_1
  exact KJ58 _ _ _ H rM
set_option maxRecDepth 100000 in
set_option maxHeartbeats 4000000 in
theorem mS_X1_lowestInFlight_58 {R : z_Mem → Prop} (hR : y_mR R) {Q Post : Option Nat → z_Mem → Prop} {a : Nat} : ∀ (m : Nat) {x1 : Option Nat} {x3 : Int32} {M : z_Mem} (H : P_X1_lowestInFlight_58 a Q m x1 x3 M) (rM : R M) (K : ∀ x M1, Q x M1 → R M1 → Post x M1), P_X1_lowestInFlight_58 a Post m x1 x3 M := by
  intro m
  induction m with
  | zero => intros; rename_i H _ _; exact False.elim H
  | succ m ih =>
    intro x1 x3 M H rM K
    unfold P_X1_lowestInFlight_58 at H ⊢
    refine And.intro (fun c1 => ?_) (fun c1 => ?_)
    · replace H := H.1 c1
      exact K _ _ H rM
    · replace H := H.2 c1
      obtain ⟨a4, e_a4, H⟩ := H
      refine z_nn_of e_a4 ?_
      refine And.intro (fun c2 => ?_) (fun c2 => ?_)
      · replace H := H.1 c2
        exact K _ _ H rM
      · replace H := H.2 c2
        refine mS_X1_packetAt hR H rM (fun x_7 M_7 H rM_7 => ?_)
        refine And.intro (fun c3 => ?_) (fun a8 c3 => ?_)
        · replace H := H.1 c3
          exact mS_X1_lowestInFlight_108 hR H rM_7 K (fun v0 v1 M1 q u => ih q u K)
        · replace H := H.2 a8 c3
          refine And.intro (fun c4 => ?_) (fun c4 => ?_)
          · replace H := H.1 c4
            refine And.intro (fun c5 => ?_) (fun c5 => ?_)
            · replace H := H.1 c5
              exact K _ _ H rM_7
            · replace H := H.2 c5
              exact mS_X1_lowestInFlight_108 hR H rM_7 K (fun v0 v1 M1 q u => ih q u K)
          · replace H := H.2 c4
            exact mS_X1_lowestInFlight_108 hR H rM_7 K (fun v0 v1 M1 q u => ih q u K)
set_option maxRecDepth 100000 in
set_option maxHeartbeats 4000000 in
theorem mS_X1_lowestInFlight_53 {R : z_Mem → Prop} (hR : y_mR R) {Q Post : Option Nat → z_Mem → Prop} {a : Nat} {x1 : Option Nat} {M : z_Mem} (H : P_X1_lowestInFlight_53 a Q x1 M) (rM : R M) (K : ∀ x M1, Q x M1 → R M1 → Post x M1) : P_X1_lowestInFlight_53 a Post x1 M := by
  unfold P_X1_lowestInFlight_53 at H ⊢
  intro x_15 e_x_15
  replace H := H x_15 e_x_15
  obtain ⟨m, H⟩ := H
  refine ⟨m, ?_⟩
  exact mS_X1_lowestInFlight_58 hR m H rM K
set_option maxRecDepth 100000 in
set_option maxHeartbeats 4000000 in
theorem mS_X1_lowestInFlight_9 {R : z_Mem → Prop} (hR : y_mR R) {Q Post : Option Nat → z_Mem → Prop} {a : Nat} : ∀ (m : Nat) {x1 : Option Nat} {x2 : Option Nat} {M : z_Mem} (H : P_X1_lowestInFlight_9 a Q m x1 x2 M) (rM : R M) (K : ∀ x M1, Q x M1 → R M1 → Post x M1), P_X1_lowestInFlight_9 a Post m x1 x2 M := by
  intro m
  induction m with
  | zero => intros; rename_i H _ _; exact False.elim H
  | succ m ih =>
    intro x1 x2 M H rM K
    unfold P_X1_lowestInFlight_9 at H ⊢
    refine And.intro (fun c1 => ?_) (fun c1 => ?_)
    · replace H := H.1 c1
      exact mS_X1_lowestInFlight_53 hR H rM K
    · replace H := H.2 c1
      refine And.intro (fun c2 => ?_) (fun a20 c2 => ?_)
      · replace H := H.1 c2
        exact mS_X1_lowestInFlight_53 hR H rM K
      · replace H := H.2 a20 c2
        refine And.intro (fun c3 => ?_) (fun c3 => ?_)
        · replace H := H.1 c3
          exact mS_X1_lowestInFlight_53 hR H rM K
        · replace H := H.2 c3
          intro M_24 e_M_24
          replace H := H M_24 e_M_24
          have rM_24 : R M_24 := by rw [e_M_24]; exact (hR.sfi (by decide) rM)
          refine mS_X1_packetAt hR H rM_24 (fun x_26 M_26 H rM_26 => ?_)
          exact ih H rM_26 K
set_option maxRecDepth 100000 in
set_option maxHeartbeats 4000000 in
theorem mS_X1_lowestInFlight {R : z_Mem → Prop} (hR : y_mR R) {Q Post : Option Nat → z_Mem → Prop} {a : Nat} {p1 : Option Nat} {M : z_Mem} (H : P_X1_lowestInFlight a p1 M Q) (rM : R M) (K : ∀ x M1, Q x M1 → R M1 → Post x M1) : P_X1_lowestInFlight a p1 M Post := by
  unfold P_X1_lowestInFlight at H ⊢
  refine mS_X1_packetAt hR H rM (fun x_28 M_28 H rM_28 => ?_)
  obtain ⟨m, H⟩ := H
  refine ⟨m, ?_⟩
  exact mS_X1_lowestInFlight_9 hR m H rM_28 K
set_option maxRecDepth 100000 in
set_option maxHeartbeats 4000000 in
theorem mS_X7_isLostByOrder {R : z_Mem → Prop} (hR : y_mR R) {Q Post : Int32 → z_Mem → Prop} {a : Nat} {p1 : Option Nat} {M : z_Mem} (H : P_X7_isLostByOrder a p1 M Q) (rM : R M) (K : ∀ x M1, Q x M1 → R M1 → Post x M1) : P_X7_isLostByOrder a p1 M Post := by
  unfold P_X7_isLostByOrder at H ⊢
  obtain ⟨a1, e_a1, H⟩ := H
  refine z_nn_of e_a1 ?_
  refine And.intro (fun c1 => ?_) (fun c1 => ?_)
  · replace H := H.1 c1
    exact K _ _ H rM
  · replace H := H.2 c1
    exact K _ _ H rM
set_option maxRecDepth 100000 in
set_option maxHeartbeats 4000000 in
theorem mS_X7_isLostByTime {R : z_Mem → Prop} (hR : y_mR R) {Q Post : Int32 → z_Mem → Prop} {a : Nat} {p1 : Option Nat} {p2 : Int32} {M : z_Mem} (H : P_X7_isLostByTime a p1 p2 M Q) (rM : R M) (K : ∀ x M1, Q x M1 → R M1 → Post x M1) : P_X7_isLostByTime a p1 p2 M Post := by
  unfold P_X7_isLostByTime at H ⊢
  intro x_3 e_x_3
  replace H := H x_3 e_x_3
  obtain ⟨a4, e_a4, H⟩ := H
  refine z_nn_of e_a4 ?_
  refine And.intro (fun c1 => ?_) (fun c1 => ?_)
  · replace H := H.1 c1
    exact K _ _ H rM
  · replace H := H.2 c1
    refine And.intro (fun c2 => ?_) (fun c2 => ?_)
    · replace H := H.1 c2
      exact K _ _ H rM
    · replace H := H.2 c2
      exact K _ _ H rM
set_option maxRecDepth 100000 in
set_option maxHeartbeats 4000000 in
theorem mS_X1_findLosses_63 {R : z_Mem → Prop} (hR : y_mR R) {Q Post : z_Mem → Prop} {a : Nat} {x1 : Option Nat} {x2 : Int32} {x3 : Option Nat} {x4 : Int32} {QJ12 PJ12 : Option Nat → Int32 → Option Nat → Int32 → z_Mem → Prop} {M : z_Mem} (H : P_X1_findLosses_63 a Q QJ12 x1 x2 x3 x4 M) (rM : R M) (K : ∀ M1, Q M1 → R M1 → Post M1) (KJ12 : ∀ v0 v1 v2 v3 M1, QJ12 v0 v1 v2 v3 M1 → R M1 → PJ12 v0 v1 v2 v3 M1) : P_X1_findLosses_63 a Post PJ12 x1 x2 x3 x4 M := by
  unfold P_X1_findLosses_63 at H ⊢
  refine mS_X1_leaveFlight hR H rM (fun M_1 H rM_1 => ?_)
  obtain ⟨a2, e_a2, H⟩ := H
  refine z_nn_of e_a2 ?_
  intro M_4 e_M_4
  replace H := H M_4 e_M_4
  have rM_4 : R M_4 := by rw [e_M_4]; exact (hR.sfi (by decide) rM_1)
  obtain ⟨a6, e_a6, H⟩ := H
  refine z_nn_of e_a6 ?_
  obtain ⟨a11, e_a11, H⟩ := H
  refine z_nn_of e_a11 ?_
  obtain ⟨a14, e_a14, H⟩ := H
  refine z_nn_of e_a14 ?_
  refine mS_X2_harm hR H rM_4 (fun M_13 H rM_13 => ?_)
  refine mS_X1_lowestInFlight hR H rM_13 (fun x_15 M_15 H rM_15 => ?_)
  intro x_16 e_x_16
  replace H := H x_16 e_x_16
  exact KJ12 _ _ _ _ _ H rM_15
set_option maxRecDepth 100000 in
set_option maxHeartbeats 4000000 in
theorem mS_X1_findLosses_38 {R : z_Mem → Prop} (hR : y_mR R) {Q Post : z_Mem → Prop} {a : Nat} {x1 : Option Nat} {x2 : Int32} {x3 : Option Nat} {x4 : Int32} {t0 : Int32} {QJ12 PJ12 : Option Nat → Int32 → Option Nat → Int32 → z_Mem → Prop} {M : z_Mem} (H : P_X1_findLosses_38 a Q QJ12 x1 x2 x3 x4 t0 M) (rM : R M) (K : ∀ M1, Q M1 → R M1 → Post M1) (KJ12 : ∀ v0 v1 v2 v3 M1, QJ12 v0 v1 v2 v3 M1 → R M1 → PJ12 v0 v1 v2 v3 M1) : P_X1_findLosses_38 a Post PJ12 x1 x2 x3 x4 t0 M := by
  unfold P_X1_findLosses_38 at H ⊢
  refine And.intro (fun c1 => ?_) (fun c1 => ?_)
  · replace H := H.1 c1
    obtain ⟨a19, e_a19, H⟩ := H
    refine z_nn_of e_a19 ?_
    obtain ⟨a22, e_a22, H⟩ := H
    refine z_nn_of e_a22 ?_
    refine mS_X7_isLostByTime hR H rM (fun x_21 M_21 H rM_21 => ?_)
    refine And.intro (fun c2 => ?_) (fun c2 => ?_)
    · replace H := H.1 c2
      exact K _ H rM_21
    · replace H := H.2 c2
      exact mS_X1_findLosses_63 hR H rM_21 K KJ12
  · replace H := H.2 c1
    exact mS_X1_findLosses_63 hR H rM K KJ12
set_option maxRecDepth 100000 in
set_option maxHeartbeats 4000000 in
theorem mS_X1_findLosses_37 {R : z_Mem → Prop} (hR : y_mR R) {Q Post : z_Mem → Prop} {a : Nat} {x1 : Option Nat} {x2 : Int32} {x3 : Option Nat} {x4 : Int32} {QJ12 PJ12 : Option Nat → Int32 → Option Nat → Int32 → z_Mem → Prop} {M : z_Mem} (H : P_X1_findLosses_37 a Q QJ12 x1 x2 x3 x4 M) (rM : R M) (K : ∀ M1, Q M1 → R M1 → Post M1) (KJ12 : ∀ v0 v1 v2 v3 M1, QJ12 v0 v1 v2 v3 M1 → R M1 → PJ12 v0 v1 v2 v3 M1) : P_X1_findLosses_37 a Post PJ12 x1 x2 x3 x4 M := by
  unfold P_X1_findLosses_37 at H ⊢
  exact mS_X1_findLosses_38 hR H rM K KJ12
set_option maxRecDepth 100000 in
set_option maxHeartbeats 4000000 in
theorem mS_X1_findLosses_12 {R : z_Mem → Prop} (hR : y_mR R) {Q Post : z_Mem → Prop} {a : Nat} : ∀ (m : Nat) {x1 : Option Nat} {x2 : Int32} {x3 : Option Nat} {x4 : Int32} {M : z_Mem} (H : P_X1_findLosses_12 a Q m x1 x2 x3 x4 M) (rM : R M) (K : ∀ M1, Q M1 → R M1 → Post M1), P_X1_findLosses_12 a Post m x1 x2 x3 x4 M := by
  intro m
  induction m with
  | zero => intros; rename_i H _ _; exact False.elim H
  | succ m ih =>
    intro x1 x2 x3 x4 M H rM K
    unfold P_X1_findLosses_12 at H ⊢
    refine And.intro (fun c1 => ?_) (fun c1 => ?_)
    · replace H := H.1 c1
      exact K _ H rM
    · replace H := H.2 c1
      refine And.intro (fun c2 => ?_) (fun a25 c2 => ?_)
      · replace H := H.1 c2
        exact K _ H rM
      · replace H := H.2 a25 c2
        refine And.intro (fun c3 => ?_) (fun c3 => ?_)
        · replace H := H.1 c3
          exact mS_X1_findLosses_37 hR H rM K (fun v0 v1 v2 v3 M1 q u => ih q u K)
        · replace H := H.2 c3
          obtain ⟨a28, e_a28, H⟩ := H
          refine z_nn_of e_a28 ?_
          refine mS_X7_isLostByOrder hR H rM (fun x_27 M_27 H rM_27 => ?_)
          refine And.intro (fun c4 => ?_) (fun c4 => ?_)
          · replace H := H.1 c4
            exact mS_X1_findLosses_37 hR H rM_27 K (fun v0 v1 v2 v3 M1 q u => ih q u K)
          · replace H := H.2 c4
            exact mS_X1_findLosses_38 hR H rM_27 K (fun v0 v1 v2 v3 M1 q u => ih q u K)
set_option maxRecDepth 100000 in
set_option maxHeartbeats 4000000 in
theorem mS_X1_findLosses {R : z_Mem → Prop} (hR : y_mR R) {Q Post : z_Mem → Prop} {a : Nat} {p1 : Option Nat} {p2 : Int32} {M : z_Mem} (H : P_X1_findLosses a p1 p2 M Q) (rM : R M) (K : ∀ M1, Q M1 → R M1 → Post M1) : P_X1_findLosses a p1 p2 M Post := by
  unfold P_X1_findLosses at H ⊢
  refine mS_X1_lowestInFlight hR H rM (fun x_30 M_30 H rM_30 => ?_)
  obtain ⟨a31, e_a31, H⟩ := H
  refine z_nn_of e_a31 ?_
  intro x_33 e_x_33
  replace H := H x_33 e_x_33
  obtain ⟨m, H⟩ := H
  refine ⟨m, ?_⟩
  exact mS_X1_findLosses_12 hR m H rM_30 K
set_option maxRecDepth 100000 in
set_option maxHeartbeats 4000000 in
theorem mS_X1_hearAck_89 {R : z_Mem → Prop} (hR : y_mR R) {Q Post : z_Mem → Prop} {a : Nat} {x1 : Option Nat} {x2 : Option Nat} {x3 : Int32} {x4 : Int32} {QJ38 PJ38 : Option Nat → Option Nat → Int32 → Int32 → z_Mem → Prop} {M : z_Mem} (H : P_X1_hearAck_89 a Q QJ38 x1 x2 x3 x4 M) (rM : R M) (K : ∀ M1, Q M1 → R M1 → Post M1) (KJ38 : ∀ v0 v1 v2 v3 M1, QJ38 v0 v1 v2 v3 M1 → R M1 → PJ38 v0 v1 v2 v3 M1) : P_X1_hearAck_89 a Post PJ38 x1 x2 x3 x4 M := by
  unfold P_X1_hearAck_89 at H ⊢
  intro x_1 e_x_1
  replace H := H x_1 e_x_1
  exact KJ38 _ _ _ _ _ H rM
set_option maxRecDepth 100000 in
set_option maxHeartbeats 4000000 in
theorem mS_X1_hearAck_52 {R : z_Mem → Prop} (hR : y_mR R) {Q Post : z_Mem → Prop} {a : Nat} {QJ38 PJ38 : Option Nat → Option Nat → Int32 → Int32 → z_Mem → Prop} : ∀ (m : Nat) {x1 : Option Nat} {x2 : Option Nat} {x3 : Int32} {x4 : Int32} {x5 : Int32} {M : z_Mem} (H : P_X1_hearAck_52 a Q QJ38 m x1 x2 x3 x4 x5 M) (rM : R M) (K : ∀ M1, Q M1 → R M1 → Post M1) (KJ38 : ∀ v0 v1 v2 v3 M1, QJ38 v0 v1 v2 v3 M1 → R M1 → PJ38 v0 v1 v2 v3 M1), P_X1_hearAck_52 a Post PJ38 m x1 x2 x3 x4 x5 M := by
  intro m
  induction m with
  | zero => intros; rename_i H _ _ _; exact False.elim H
  | succ m ih =>
    intro x1 x2 x3 x4 x5 M H rM K KJ38
    unfold P_X1_hearAck_52 at H ⊢
    obtain ⟨a2, e_a2, H⟩ := H
    refine z_nn_of e_a2 ?_
    obtain ⟨a4, e_a4, H⟩ := H
    refine z_nn_of e_a4 ?_
    refine And.intro H.1 ?_
    replace H := H.2
    refine And.intro (fun c1 => ?_) (fun c1 => ?_)
    · replace H := H.1 c1
      exact mS_X1_hearAck_89 hR H rM K KJ38
    · replace H := H.2 c1
      refine And.intro (fun c2 => ?_) (fun c2 => ?_)
      · replace H := H.1 c2
        exact mS_X1_hearAck_89 hR H rM K KJ38
      · replace H := H.2 c2
        refine mS_X1_packetAt hR H rM (fun x_9 M_9 H rM_9 => ?_)
        refine mS_X1_acknowledge hR H rM_9 (fun M_10 H rM_10 => ?_)
        intro x_11 e_x_11
        replace H := H x_11 e_x_11
        exact ih H rM_10 K KJ38
set_option maxRecDepth 100000 in
set_option maxHeartbeats 4000000 in
theorem mS_X1_hearAck_109 {R : z_Mem → Prop} (hR : y_mR R) {Q Post : z_Mem → Prop} {a : Nat} {x1 : Option Nat} {M : z_Mem} (H : P_X1_hearAck_109 a Q x1 M) (rM : R M) (K : ∀ M1, Q M1 → R M1 → Post M1) : P_X1_hearAck_109 a Post x1 M := by
  unfold P_X1_hearAck_109 at H ⊢
  refine mS_X1_takeCredits hR H rM (fun M_12 H rM_12 => ?_)
  obtain ⟨a14, e_a14, H⟩ := H
  refine z_nn_of e_a14 ?_
  intro M_15 e_M_15
  replace H := H M_15 e_M_15
  have rM_15 : R M_15 := by rw [e_M_15]; exact (hR.sfi (by decide) rM_12)
  obtain ⟨a17, e_a17, H⟩ := H
  refine z_nn_of e_a17 ?_
  intro M_18 e_M_18
  replace H := H M_18 e_M_18
  have rM_18 : R M_18 := by rw [e_M_18]; exact (hR.sfi (by decide) rM_15)
  refine mS_X1_findLosses hR H rM_18 (fun M_20 H rM_20 => ?_)
  refine mS_X1_findLosses hR H rM_20 (fun M_22 H rM_22 => ?_)
  exact K _ H rM_22
set_option maxRecDepth 100000 in
set_option maxHeartbeats 4000000 in
theorem mS_X1_hearAck_38 {R : z_Mem → Prop} (hR : y_mR R) {Q Post : z_Mem → Prop} {a : Nat} : ∀ (m : Nat) {x1 : Option Nat} {x2 : Option Nat} {x3 : Int32} {x4 : Int32} {M : z_Mem} (H : P_X1_hearAck_38 a Q m x1 x2 x3 x4 M) (rM : R M) (K : ∀ M1, Q M1 → R M1 → Post M1), P_X1_hearAck_38 a Post m x1 x2 x3 x4 M := by
  intro m
  induction m with
  | zero => intros; rename_i H _ _; exact False.elim H
  | succ m ih =>
    intro x1 x2 x3 x4 M H rM K
    unfold P_X1_hearAck_38 at H ⊢
    refine And.intro (fun c1 => ?_) (fun c1 => ?_)
    · replace H := H.1 c1
      refine And.intro (fun c2 => ?_) (fun a24 c2 => ?_)
      · replace H := H.1 c2
        exact mS_X1_hearAck_109 hR H rM K
      · replace H := H.2 a24 c2
        obtain ⟨a25, e_a25, H⟩ := H
        refine z_nn_of e_a25 ?_
        refine mS_X1_hearOfGreatest hR H rM (fun M_27 H rM_27 => ?_)
        exact mS_X1_hearAck_109 hR H rM_27 K
    · replace H := H.2 c1
      obtain ⟨a28, e_a28, H⟩ := H
      refine z_nn_of e_a28 ?_
      obtain ⟨a30, e_a30, H⟩ := H
      refine z_nn_of e_a30 ?_
      refine And.intro H.1 ?_
      replace H := H.2
      intro x_32 e_x_32
      replace H := H x_32 e_x_32
      obtain ⟨m, H⟩ := H
      refine ⟨m, ?_⟩
      exact mS_X1_hearAck_52 hR m H rM K (fun v0 v1 v2 v3 M1 q u => ih q u K)
set_option maxRecDepth 100000 in
set_option maxHeartbeats 4000000 in
theorem mS_X1_hearAck_25 {R : z_Mem → Prop} (hR : y_mR R) {Q Post : z_Mem → Prop} {a : Nat} {x1 : Option Nat} {x2 : Option Nat} {t0 : Int32} {M : z_Mem} (H : P_X1_hearAck_25 a Q x1 x2 t0 M) (rM : R M) (K : ∀ M1, Q M1 → R M1 → Post M1) : P_X1_hearAck_25 a Post x1 x2 t0 M := by
  unfold P_X1_hearAck_25 at H ⊢
  obtain ⟨a34, e_a34, H⟩ := H
  refine z_nn_of e_a34 ?_
  intro x_36 e_x_36
  replace H := H x_36 e_x_36
  obtain ⟨m, H⟩ := H
  refine ⟨m, ?_⟩
  exact mS_X1_hearAck_38 hR m H rM K
set_option maxRecDepth 100000 in
set_option maxHeartbeats 4000000 in
theorem mS_X1_hearAck_24 {R : z_Mem → Prop} (hR : y_mR R) {Q Post : z_Mem → Prop} {a : Nat} {x1 : Option Nat} {x2 : Option Nat} {M : z_Mem} (H : P_X1_hearAck_24 a Q x1 x2 M) (rM : R M) (K : ∀ M1, Q M1 → R M1 → Post M1) : P_X1_hearAck_24 a Post x1 x2 M := by
  unfold P_X1_hearAck_24 at H ⊢
  exact mS_X1_hearAck_25 hR H rM K
set_option maxRecDepth 100000 in
set_option maxHeartbeats 4000000 in
theorem mS_X1_hearAck {R : z_Mem → Prop} (hR : y_mR R) {Q Post : z_Mem → Prop} {a : Nat} {p1 : Option Nat} {M : z_Mem} (H : P_X1_hearAck a p1 M Q) (rM : R M) (K : ∀ M1, Q M1 → R M1 → Post M1) : P_X1_hearAck a p1 M Post := by
  unfold P_X1_hearAck at H ⊢
  obtain ⟨a39, e_a39, H⟩ := H
  refine z_nn_of e_a39 ?_
  refine mS_X0_greatest hR H rM (fun x_38 M_38 H rM_38 => ?_)
  refine mS_X1_packetAt hR H rM_38 (fun x_40 M_40 H rM_40 => ?_)
  refine And.intro (fun c1 => ?_) (fun a41 c1 => ?_)
  · replace H := H.1 c1
    exact mS_X1_hearAck_24 hR H rM_40 K
  · replace H := H.2 a41 c1
    refine And.intro (fun c2 => ?_) (fun c2 => ?_)
    · replace H := H.1 c2
      exact mS_X1_hearAck_25 hR H rM_40 K
    · replace H := H.2 c2
      exact mS_X1_hearAck_24 hR H rM_40 K
set_option maxRecDepth 100000 in
set_option maxHeartbeats 4000000 in
theorem mS_X1_hear_92 {R : z_Mem → Prop} (hR : y_mR R) {Q Post : z_Mem → Prop} {a : Nat} {x1 : Option Nat} {x2 : Int32} {M : z_Mem} (H : P_X1_hear_92 a Q x1 x2 M) (rM : R M) (K : ∀ M1, Q M1 → R M1 → Post M1) : P_X1_hear_92 a Post x1 x2 M := by
  unfold P_X1_hear_92 at H ⊢
  obtain ⟨a1, e_a1, H⟩ := H
  refine z_nn_of e_a1 ?_
  refine And.intro (fun c1 => ?_) (fun c1 => ?_)
  · replace H := H.1 c1
    refine And.intro (fun c2 => ?_) (fun c2 => ?_)
    · replace H := H.1 c2
      refine And.intro (fun c3 => ?_) (fun a11 c3 => ?_)
      · replace H := H.1 c3
        exact K _ H rM
      · replace H := H.2 a11 c3
        refine And.intro (fun c4 => ?_) (fun c4 => ?_)
        · replace H := H.1 c4
          refine mS_X1_hearAck hR H rM (fun M_14 H rM_14 => ?_)
          exact K _ H rM_14
        · replace H := H.2 c4
          exact K _ H rM
    · replace H := H.2 c2
      refine mS_X1_hearAccept hR H rM (fun M_16 H rM_16 => ?_)
      exact K _ H rM_16
  · replace H := H.2 c1
    refine And.intro (fun c5 => ?_) (fun a5 c5 => ?_)
    · replace H := H.1 c5
      exact K _ H rM
    · replace H := H.2 a5 c5
      refine And.intro (fun c6 => ?_) (fun c6 => ?_)
      · replace H := H.1 c6
        refine mS_X1_hearAck hR H rM (fun M_8 H rM_8 => ?_)
        exact K _ H rM_8
      · replace H := H.2 c6
        exact K _ H rM
set_option maxRecDepth 100000 in
set_option maxHeartbeats 4000000 in
theorem mS_X1_hear_13 {R : z_Mem → Prop} (hR : y_mR R) {Q Post : z_Mem → Prop} {a : Nat} {x1 : Option Nat} {t0 : Int32} {M : z_Mem} (H : P_X1_hear_13 a Q x1 t0 M) (rM : R M) (K : ∀ M1, Q M1 → R M1 → Post M1) : P_X1_hear_13 a Post x1 t0 M := by
  unfold P_X1_hear_13 at H ⊢
  obtain ⟨a17, e_a17, H⟩ := H
  refine z_nn_of e_a17 ?_
  refine And.intro (fun c1 => ?_) (fun c1 => ?_)
  · replace H := H.1 c1
    intro M_34 e_M_34
    replace H := H M_34 e_M_34
    have rM_34 : R M_34 := by rw [e_M_34]; exact (hR.sfi (by decide) rM)
    exact K _ H rM_34
  · replace H := H.2 c1
    refine And.intro (fun c2 => ?_) (fun c2 => ?_)
    · replace H := H.1 c2
      refine mS_X1_routeOf hR H rM (fun x_31 M_31 H rM_31 => ?_)
      obtain ⟨a32, e_a32, H⟩ := H
      refine z_nn_of e_a32 ?_
      intro M_33 e_M_33
      replace H := H M_33 e_M_33
      have rM_33 : R M_33 := by rw [e_M_33]; exact (hR.k898 rM_31)
      exact K _ H rM_33
    · replace H := H.2 c2
      refine And.intro (fun c3 => ?_) (fun c3 => ?_)
      · replace H := H.1 c3
        refine And.intro (fun c4 => ?_) (fun c4 => ?_)
        · replace H := H.1 c4
          exact mS_X1_hear_92 hR H rM K
        · replace H := H.2 c4
          refine And.intro (fun c5 => ?_) (fun c5 => ?_)
          · replace H := H.1 c5
            intro M_27 e_M_27
            replace H := H M_27 e_M_27
            have rM_27 : R M_27 := by rw [e_M_27]; exact (hR.sfi (by decide) rM)
            intro M_28 e_M_28
            replace H := H M_28 e_M_28
            have rM_28 : R M_28 := by rw [e_M_28]; exact (hR.sfi (by decide) rM_27)
            refine mS_X1_sayHello hR H rM_28 (fun M_29 H rM_29 => ?_)
            exact K _ H rM_29
          · replace H := H.2 c5
            exact mS_X1_hear_92 hR H rM K
      · replace H := H.2 c3
        exact mS_X1_hear_92 hR H rM K
set_option maxRecDepth 100000 in
set_option maxHeartbeats 4000000 in
theorem mS_X1_hear {R : z_Mem → Prop} (hR : y_mR R) {Q Post : z_Mem → Prop} {a : Nat} {p1 : Option Nat} {M : z_Mem} (H : P_X1_hear a p1 M Q) (rM : R M) (K : ∀ M1, Q M1 → R M1 → Post M1) : P_X1_hear a p1 M Post := by
  unfold P_X1_hear at H ⊢
  refine And.intro (fun c1 => ?_) (fun c1 => ?_)
  · replace H := H.1 c1
    exact mS_X1_hear_13 hR H rM K
  · replace H := H.2 c1
    exact mS_X1_hear_13 hR H rM K
set_option maxRecDepth 100000 in
set_option maxHeartbeats 4000000 in
theorem mS_X1_hearAll_69 {R : z_Mem → Prop} (hR : y_mR R) {Q Post : z_Mem → Prop} {a : Nat} {x1 : Int32} {QJ11 PJ11 : Int32 → z_Mem → Prop} {M : z_Mem} (H : P_X1_hearAll_69 a Q QJ11 x1 M) (rM : R M) (K : ∀ M1, Q M1 → R M1 → Post M1) (KJ11 : ∀ v0 M1, QJ11 v0 M1 → R M1 → PJ11 v0 M1) : P_X1_hearAll_69 a Post PJ11 x1 M := by
  unfold P_X1_hearAll_69 at H ⊢
  intro x_1 e_x_1
  replace H := H x_1 e_x_1
  exact KJ11 _ _ H rM
set_option maxRecDepth 100000 in
set_option maxHeartbeats 4000000 in
theorem mS_X1_hearAll_64 {R : z_Mem → Prop} (hR : y_mR R) {Q Post : z_Mem → Prop} {a : Nat} {x1 : Int32} {x2 : Option Nat} {QJ11 PJ11 : Int32 → z_Mem → Prop} {M : z_Mem} (H : P_X1_hearAll_64 a Q QJ11 x1 x2 M) (rM : R M) (K : ∀ M1, Q M1 → R M1 → Post M1) (KJ11 : ∀ v0 M1, QJ11 v0 M1 → R M1 → PJ11 v0 M1) : P_X1_hearAll_64 a Post PJ11 x1 x2 M := by
  unfold P_X1_hearAll_64 at H ⊢
  refine mS_X1_hear hR H rM (fun M_2 H rM_2 => ?_)
  exact mS_X1_hearAll_69 hR H rM_2 K KJ11
set_option maxRecDepth 100000 in
set_option maxHeartbeats 4000000 in
theorem mS_X1_hearAll_11 {R : z_Mem → Prop} (hR : y_mR R) {Q Post : z_Mem → Prop} {a : Nat} : ∀ (m : Nat) {x1 : Int32} {M : z_Mem} (H : P_X1_hearAll_11 a Q m x1 M) (rM : R M) (K : ∀ M1, Q M1 → R M1 → Post M1), P_X1_hearAll_11 a Post m x1 M := by
  intro m
  induction m with
  | zero => intros; rename_i H _ _; exact False.elim H
  | succ m ih =>
    intro x1 M H rM K
    unfold P_X1_hearAll_11 at H ⊢
    refine And.intro (fun c1 => ?_) (fun c1 => ?_)
    · replace H := H.1 c1
      exact K _ H rM
    · replace H := H.2 c1
      obtain ⟨a5, e_a5, H⟩ := H
      refine z_nn_of e_a5 ?_
      obtain ⟨a8, e_a8, H⟩ := H
      refine z_nn_of e_a8 ?_
      obtain ⟨a11, e_a11, H⟩ := H
      refine z_nn_of e_a11 ?_
      refine mS_X10_takeDue hR H rM (fun x_10 M_10 H rM_10 => ?_)
      refine And.intro (fun c2 => ?_) (fun a12 c2 => ?_)
      · replace H := H.1 c2
        exact K _ H rM_10
      · replace H := H.2 a12 c2
        refine And.intro (fun c3 => ?_) (fun c3 => ?_)
        · replace H := H.1 c3
          exact mS_X1_hearAll_64 hR H rM_10 K (fun v0 M1 q u => ih q u K)
        · replace H := H.2 c3
          refine And.intro (fun c4 => ?_) (fun c4 => ?_)
          · replace H := H.1 c4
            exact mS_X1_hearAll_64 hR H rM_10 K (fun v0 M1 q u => ih q u K)
          · replace H := H.2 c4
            refine And.intro (fun c5 => ?_) (fun c5 => ?_)
            · replace H := H.1 c5
              exact mS_X1_hearAll_64 hR H rM_10 K (fun v0 M1 q u => ih q u K)
            · replace H := H.2 c5
              exact mS_X1_hearAll_69 hR H rM_10 K (fun v0 M1 q u => ih q u K)
set_option maxRecDepth 100000 in
set_option maxHeartbeats 4000000 in
theorem mS_X1_hearAll {R : z_Mem → Prop} (hR : y_mR R) {Q Post : z_Mem → Prop} {a : Nat} {M : z_Mem} (H : P_X1_hearAll a M Q) (rM : R M) (K : ∀ M1, Q M1 → R M1 → Post M1) : P_X1_hearAll a M Post := by
  unfold P_X1_hearAll at H ⊢
  obtain ⟨a20, e_a20, H⟩ := H
  refine z_nn_of e_a20 ?_
  obtain ⟨a22, e_a22, H⟩ := H
  refine z_nn_of e_a22 ?_
  intro x_24 e_x_24
  replace H := H x_24 e_x_24
  obtain ⟨m, H⟩ := H
  refine ⟨m, ?_⟩
  exact mS_X1_hearAll_11 hR m H rM K
set_option maxRecDepth 100000 in
set_option maxHeartbeats 4000000 in
theorem mS_X7_isProbeDue {R : z_Mem → Prop} (hR : y_mR R) {Q Post : Int32 → z_Mem → Prop} {a : Nat} {p1 : Int32} {M : z_Mem} (H : P_X7_isProbeDue a p1 M Q) (rM : R M) (K : ∀ x M1, Q x M1 → R M1 → Post x M1) : P_X7_isProbeDue a p1 M Post := by
  unfold P_X7_isProbeDue at H ⊢
  intro x_3 e_x_3
  replace H := H x_3 e_x_3
  refine And.intro (fun c1 => ?_) (fun c1 => ?_)
  · replace H := H.1 c1
    exact K _ _ H rM
  · replace H := H.2 c1
    refine And.intro (fun c2 => ?_) (fun c2 => ?_)
    · replace H := H.1 c2
      exact K _ _ H rM
    · replace H := H.2 c2
      exact K _ _ H rM
set_option maxRecDepth 100000 in
set_option maxHeartbeats 4000000 in
theorem mS_X6_init {R : z_Mem → Prop} (hR : y_mR R) {Q Post : z_Mem → Prop} {a : Nat} {p1 : Int32} {p2 : Int32} {p3 : Int32} {p4 : Int32} {p5 : Int32} {p6 : Int32} {M : z_Mem} (H : P_X6_init a p1 p2 p3 p4 p5 p6 M Q) (rM : R M) (K : ∀ M1, Q M1 → R M1 → Post M1) : P_X6_init a p1 p2 p3 p4 p5 p6 M Post := by
  unfold P_X6_init at H ⊢
  intro M_1 e_M_1
  replace H := H M_1 e_M_1
  have rM_1 : R M_1 := by rw [e_M_1]; exact (hR.sfi (by decide) rM)
  intro M_2 e_M_2
  replace H := H M_2 e_M_2
  have rM_2 : R M_2 := by rw [e_M_2]; exact (hR.sfi (by decide) rM_1)
  intro M_3 e_M_3
  replace H := H M_3 e_M_3
  have rM_3 : R M_3 := by rw [e_M_3]; exact (hR.sfi (by decide) rM_2)
  intro M_4 e_M_4
  replace H := H M_4 e_M_4
  have rM_4 : R M_4 := by rw [e_M_4]; exact (hR.sfi (by decide) rM_3)
  intro M_5 e_M_5
  replace H := H M_5 e_M_5
  have rM_5 : R M_5 := by rw [e_M_5]; exact (hR.sfi (by decide) rM_4)
  intro M_6 e_M_6
  replace H := H M_6 e_M_6
  have rM_6 : R M_6 := by rw [e_M_6]; exact (hR.sfi (by decide) rM_5)
  intro M_7 e_M_7
  replace H := H M_7 e_M_7
  have rM_7 : R M_7 := by rw [e_M_7]; exact (hR.sfi (by decide) rM_6)
  exact K _ H rM_7
set_option maxRecDepth 100000 in
set_option maxHeartbeats 4000000 in
theorem mS_X9_takeOff_38 {R : z_Mem → Prop} (hR : y_mR R) {Q Post : z_Mem → Prop} {a : Nat} {x1 : Int32} {x2 : Int32} {x3 : Int32} {QJ6 PJ6 : Int32 → Int32 → Int32 → z_Mem → Prop} {M : z_Mem} (H : P_X9_takeOff_38 a Q QJ6 x1 x2 x3 M) (rM : R M) (K : ∀ M1, Q M1 → R M1 → Post M1) (KJ6 : ∀ v0 v1 v2 M1, QJ6 v0 v1 v2 M1 → R M1 → PJ6 v0 v1 v2 M1) : P_X9_takeOff_38 a Post PJ6 x1 x2 x3 M := by
  unfold P_X9_takeOff_38 at H ⊢
  obtain ⟨a2, e_a2, H⟩ := H
  refine z_nn_of e_a2 ?_
  refine And.intro H.1 ?_
  replace H := H.2
  refine And.intro H.1 ?_
  replace H := H.2
  intro M_5 e_M_5
  replace H := H M_5 e_M_5
  have rM_5 : R M_5 := by rw [e_M_5]; exact (hR.sai rM)
  intro x_6 e_x_6
  replace H := H x_6 e_x_6
  exact KJ6 _ _ _ _ H rM_5
set_option maxRecDepth 100000 in
set_option maxHeartbeats 4000000 in
theorem mS_X9_takeOff_6 {R : z_Mem → Prop} (hR : y_mR R) {Q Post : z_Mem → Prop} {a : Nat} : ∀ (m : Nat) {x1 : Int32} {x2 : Int32} {x3 : Int32} {M : z_Mem} (H : P_X9_takeOff_6 a Q m x1 x2 x3 M) (rM : R M) (K : ∀ M1, Q M1 → R M1 → Post M1), P_X9_takeOff_6 a Post m x1 x2 x3 M := by
  intro m
  induction m with
  | zero => intros; rename_i H _ _; exact False.elim H
  | succ m ih =>
    intro x1 x2 x3 M H rM K
    unfold P_X9_takeOff_6 at H ⊢
    refine And.intro (fun c1 => ?_) (fun c1 => ?_)
    · replace H := H.1 c1
      intro M_9 e_M_9
      replace H := H M_9 e_M_9
      have rM_9 : R M_9 := by rw [e_M_9]; exact (hR.sfi (by decide) rM)
      exact K _ H rM_9
    · replace H := H.2 c1
      refine And.intro (fun c2 => ?_) (fun c2 => ?_)
      · replace H := H.1 c2
        intro M_12 e_M_12
        replace H := H M_12 e_M_12
        have rM_12 : R M_12 := by rw [e_M_12]; exact (hR.sfi (by decide) rM)
        exact K _ H rM_12
      · replace H := H.2 c2
        refine mS_X9_isLost hR H rM (fun x_13 M_13 H rM_13 => ?_)
        refine And.intro (fun c3 => ?_) (fun c3 => ?_)
        · replace H := H.1 c3
          exact mS_X9_takeOff_38 hR H rM_13 K (fun v0 v1 v2 M1 q u => ih q u K)
        · replace H := H.2 c3
          intro M_16 e_M_16
          replace H := H M_16 e_M_16
          have rM_16 : R M_16 := by rw [e_M_16]; exact (hR.sfi (by decide) rM_13)
          exact mS_X9_takeOff_38 hR H rM_16 K (fun v0 v1 v2 M1 q u => ih q u K)
set_option maxRecDepth 100000 in
set_option maxHeartbeats 4000000 in
theorem mS_X9_takeOff {R : z_Mem → Prop} (hR : y_mR R) {Q Post : z_Mem → Prop} {a : Nat} {p1 : Int32} {p2 : Int32} {M : z_Mem} (H : P_X9_takeOff a p1 p2 M Q) (rM : R M) (K : ∀ M1, Q M1 → R M1 → Post M1) : P_X9_takeOff a p1 p2 M Post := by
  unfold P_X9_takeOff at H ⊢
  intro x_17 e_x_17
  replace H := H x_17 e_x_17
  obtain ⟨m, H⟩ := H
  refine ⟨m, ?_⟩
  exact mS_X9_takeOff_6 hR m H rM K
set_option maxRecDepth 100000 in
set_option maxHeartbeats 4000000 in
theorem mS_X1_sendPacket_79 {R : z_Mem → Prop} (hR : y_mR R) {Q Post : z_Mem → Prop} {a : Nat} {x1 : Option Nat} {x2 : Int32} {x3 : Int32} {x4 : Int32} {x6 : Option Nat} {t0 : Option Nat} {t1 : Int32} {M : z_Mem} (H : P_X1_sendPacket_79 a Q x1 x2 x3 x4 x6 t0 t1 M) (rM : R M) (K : ∀ M1, Q M1 → R M1 → Post M1) : P_X1_sendPacket_79 a Post x1 x2 x3 x4 x6 t0 t1 M := by
  unfold P_X1_sendPacket_79 at H ⊢
  obtain ⟨a1, e_a1, H⟩ := H
  refine z_nn_of e_a1 ?_
  intro M_2 e_M_2
  replace H := H M_2 e_M_2
  have rM_2 : R M_2 := by rw [e_M_2]; exact (hR.sfi (by decide) rM)
  obtain ⟨a3, e_a3, H⟩ := H
  refine z_nn_of e_a3 ?_
  obtain ⟨a5, e_a5, H⟩ := H
  refine z_nn_of e_a5 ?_
  intro M_6 e_M_6
  replace H := H M_6 e_M_6
  have rM_6 : R M_6 := by rw [e_M_6]; exact (hR.sfi (by decide) rM_2)
  intro M_8 e_M_8
  replace H := H M_8 e_M_8
  have rM_8 : R M_8 := by rw [e_M_8]; exact (hR.sfi (by decide) rM_6)
  obtain ⟨a11, e_a11, H⟩ := H
  refine z_nn_of e_a11 ?_
  refine And.intro H.1 ?_
  replace H := H.2
  intro M_13 e_M_13
  replace H := H M_13 e_M_13
  have rM_13 : R M_13 := by rw [e_M_13]; exact (hR.sar rM_8)
  intro M_15 e_M_15
  replace H := H M_15 e_M_15
  have rM_15 : R M_15 := by rw [e_M_15]; exact (hR.sfi (by decide) rM_13)
  intro M_17 e_M_17
  replace H := H M_17 e_M_17
  have rM_17 : R M_17 := by rw [e_M_17]; exact (hR.sfi (by decide) rM_15)
  intro M_19 e_M_19
  replace H := H M_19 e_M_19
  have rM_19 : R M_19 := by rw [e_M_19]; exact (hR.sfi (by decide) rM_17)
  obtain ⟨a21, e_a21, H⟩ := H
  refine z_nn_of e_a21 ?_
  intro M_23 e_M_23
  replace H := H M_23 e_M_23
  have rM_23 : R M_23 := by rw [e_M_23]; exact (hR.sfi (by decide) rM_19)
  obtain ⟨a25, e_a25, H⟩ := H
  refine z_nn_of e_a25 ?_
  refine And.intro H.1 ?_
  replace H := H.2
  obtain ⟨a28, e_a28, H⟩ := H
  refine z_nn_of e_a28 ?_
  refine mS_X9_takeOff hR H rM_23 (fun M_27 H rM_27 => ?_)
  refine And.intro H.1 ?_
  replace H := H.2
  intro M_30 e_M_30
  replace H := H M_30 e_M_30
  have rM_30 : R M_30 := by rw [e_M_30]; exact (hR.new rM_27)
  refine mS_X4_init hR H rM_30 (fun M_31 H rM_31 => ?_)
  intro M_32 e_M_32
  replace H := H M_32 e_M_32
  have rM_32 : R M_32 := by rw [e_M_32]; exact (hR.sfr rM_31)
  obtain ⟨a36, e_a36, H⟩ := H
  refine z_nn_of e_a36 ?_
  refine mS_X5_putToServer hR H rM_32 (fun M_35 H rM_35 => ?_)
  exact K _ H rM_35
set_option maxRecDepth 100000 in
set_option maxHeartbeats 4000000 in
theorem mS_X1_sendPacket {R : z_Mem → Prop} (hR : y_mR R) {Q Post : z_Mem → Prop} {a : Nat} {p1 : Option Nat} {p2 : Int32} {p3 : Int32} {p4 : Int32} {p5 : Int32} {M : z_Mem} (H : P_X1_sendPacket a p1 p2 p3 p4 p5 M Q) (rM : R M) (K : ∀ M1, Q M1 → R M1 → Post M1) : P_X1_sendPacket a p1 p2 p3 p4 p5 M Post := by
  unfold P_X1_sendPacket at H ⊢
  refine And.intro (fun c1 => ?_) (fun c1 => ?_)
  · replace H := H.1 c1
    exact K _ H rM
  · replace H := H.2 c1
    refine And.intro (fun c2 => ?_) (fun c2 => ?_)
    · replace H := H.1 c2
      exact K _ H rM
    · replace H := H.2 c2
      refine And.intro (fun c3 => ?_) (fun c3 => ?_)
      · replace H := H.1 c3
        refine And.intro H.1 ?_
        replace H := H.2
        intro M_42 e_M_42
        replace H := H M_42 e_M_42
        have rM_42 : R M_42 := by rw [e_M_42]; exact (hR.new rM)
        obtain ⟨a44, e_a44, H⟩ := H
        refine z_nn_of e_a44 ?_
        obtain ⟨a47, e_a47, H⟩ := H
        refine z_nn_of e_a47 ?_
        refine mS_X6_init hR H rM_42 (fun M_49 H rM_49 => ?_)
        intro M_51 e_M_51
        replace H := H M_51 e_M_51
        have rM_51 : R M_51 := by rw [e_M_51]; exact (hR.sfi (by decide) rM_49)
        intro M_52 e_M_52
        replace H := H M_52 e_M_52
        have rM_52 : R M_52 := by rw [e_M_52]; exact (hR.sfi (by decide) rM_51)
        refine And.intro (fun c4 => ?_) (fun c4 => ?_)
        · replace H := H.1 c4
          exact mS_X1_sendPacket_79 hR H rM_52 K
        · replace H := H.2 c4
          exact mS_X1_sendPacket_79 hR H rM_52 K
      · replace H := H.2 c3
        exact K _ H rM
set_option maxRecDepth 100000 in
set_option maxHeartbeats 4000000 in
theorem mS_X1_probeInTime_23 {R : z_Mem → Prop} (hR : y_mR R) {Q Post : z_Mem → Prop} {a : Nat} {x1 : Option Nat} {t0 : Option Nat} {M : z_Mem} (H : P_X1_probeInTime_23 a Q x1 t0 M) (rM : R M) (K : ∀ M1, Q M1 → R M1 → Post M1) : P_X1_probeInTime_23 a Post x1 t0 M := by
  unfold P_X1_probeInTime_23 at H ⊢
  refine And.intro (fun c1 => ?_) (fun a1 c1 => ?_)
  · replace H := H.1 c1
    exact K _ H rM
  · replace H := H.2 a1 c1
    refine And.intro (fun c2 => ?_) (fun c2 => ?_)
    · replace H := H.1 c2
      exact K _ H rM
    · replace H := H.2 c2
      obtain ⟨a4, e_a4, H⟩ := H
      refine z_nn_of e_a4 ?_
      intro M_6 e_M_6
      replace H := H M_6 e_M_6
      have rM_6 : R M_6 := by rw [e_M_6]; exact (hR.sfi (by decide) rM)
      intro M_8 e_M_8
      replace H := H M_8 e_M_8
      have rM_8 : R M_8 := by rw [e_M_8]; exact (hR.sfi (by decide) rM_6)
      refine mS_X1_sendPacket hR H rM_8 (fun M_12 H rM_12 => ?_)
      exact K _ H rM_12
set_option maxRecDepth 100000 in
set_option maxHeartbeats 4000000 in
theorem mS_X1_probeInTime {R : z_Mem → Prop} (hR : y_mR R) {Q Post : z_Mem → Prop} {a : Nat} {p1 : Option Nat} {M : z_Mem} (H : P_X1_probeInTime a p1 M Q) (rM : R M) (K : ∀ M1, Q M1 → R M1 → Post M1) : P_X1_probeInTime a p1 M Post := by
  unfold P_X1_probeInTime at H ⊢
  obtain ⟨a14, e_a14, H⟩ := H
  refine z_nn_of e_a14 ?_
  obtain ⟨a17, e_a17, H⟩ := H
  refine z_nn_of e_a17 ?_
  refine mS_X7_isProbeDue hR H rM (fun x_16 M_16 H rM_16 => ?_)
  refine And.intro (fun c1 => ?_) (fun c1 => ?_)
  · replace H := H.1 c1
    exact mS_X1_probeInTime_23 hR H rM_16 K
  · replace H := H.2 c1
    refine mS_X1_lowestInFlight hR H rM_16 (fun x_19 M_19 H rM_19 => ?_)
    exact mS_X1_probeInTime_23 hR H rM_19 K
set_option maxRecDepth 100000 in
set_option maxHeartbeats 4000000 in
theorem mS_X1_lookAfter_94 {R : z_Mem → Prop} (hR : y_mR R) {Q Post : z_Mem → Prop} {a : Nat} {M : z_Mem} (H : P_X1_lookAfter_94 a Q M) (rM : R M) (K : ∀ M1, Q M1 → R M1 → Post M1) : P_X1_lookAfter_94 a Post M := by
  unfold P_X1_lookAfter_94 at H ⊢
  refine And.intro (fun c1 => ?_) (fun c1 => ?_)
  · replace H := H.1 c1
    obtain ⟨a4, e_a4, H⟩ := H
    refine z_nn_of e_a4 ?_
    refine And.intro (fun c2 => ?_) (fun c2 => ?_)
    · replace H := H.1 c2
      exact K _ H rM
    · replace H := H.2 c2
      intro M_8 e_M_8
      replace H := H M_8 e_M_8
      have rM_8 : R M_8 := by rw [e_M_8]; exact (hR.sfi (by decide) rM)
      exact K _ H rM_8
  · replace H := H.2 c1
    exact K _ H rM
set_option maxRecDepth 100000 in
set_option maxHeartbeats 4000000 in
theorem mS_X1_lookAfter_50 {R : z_Mem → Prop} (hR : y_mR R) {Q Post : z_Mem → Prop} {a : Nat} {M : z_Mem} (H : P_X1_lookAfter_50 a Q M) (rM : R M) (K : ∀ M1, Q M1 → R M1 → Post M1) : P_X1_lookAfter_50 a Post M := by
  unfold P_X1_lookAfter_50 at H ⊢
  refine And.intro (fun c1 => ?_) (fun c1 => ?_)
  · replace H := H.1 c1
    obtain ⟨a12, e_a12, H⟩ := H
    refine z_nn_of e_a12 ?_
    refine And.intro (fun c2 => ?_) (fun c2 => ?_)
    · replace H := H.1 c2
      exact mS_X1_lookAfter_94 hR H rM K
    · replace H := H.2 c2
      intro M_18 e_M_18
      replace H := H M_18 e_M_18
      have rM_18 : R M_18 := by rw [e_M_18]; exact (hR.sfi (by decide) rM)
      refine mS_X1_sayHello hR H rM_18 (fun M_19 H rM_19 => ?_)
      exact K _ H rM_19
  · replace H := H.2 c1
    exact mS_X1_lookAfter_94 hR H rM K
set_option maxRecDepth 100000 in
set_option maxHeartbeats 4000000 in
theorem mS_X1_lookAfter_16 {R : z_Mem → Prop} (hR : y_mR R) {Q Post : z_Mem → Prop} {a : Nat} {M : z_Mem} (H : P_X1_lookAfter_16 a Q M) (rM : R M) (K : ∀ M1, Q M1 → R M1 → Post M1) : P_X1_lookAfter_16 a Post M := by
  unfold P_X1_lookAfter_16 at H ⊢
  refine mS_X1_findLosses hR H rM (fun M_21 H rM_21 => ?_)
  refine mS_X1_findLosses hR H rM_21 (fun M_23 H rM_23 => ?_)
  refine mS_X1_probeInTime hR H rM_23 (fun M_25 H rM_25 => ?_)
  refine mS_X1_probeInTime hR H rM_25 (fun M_27 H rM_27 => ?_)
  exact mS_X1_lookAfter_50 hR H rM_27 K
set_option maxRecDepth 100000 in
set_option maxHeartbeats 4000000 in
theorem mS_X1_lookAfter {R : z_Mem → Prop} (hR : y_mR R) {Q Post : z_Mem → Prop} {a : Nat} {M : z_Mem} (H : P_X1_lookAfter a M Q) (rM : R M) (K : ∀ M1, Q M1 → R M1 → Post M1) : P_X1_lookAfter a M Post := by
  unfold P_X1_lookAfter at H ⊢
  refine And.intro (fun c1 => ?_) (fun c1 => ?_)
  · replace H := H.1 c1
    exact mS_X1_lookAfter_16 hR H rM K
  · replace H := H.2 c1
    refine And.intro (fun c2 => ?_) (fun c2 => ?_)
    · replace H := H.1 c2
      exact mS_X1_lookAfter_16 hR H rM K
    · replace H := H.2 c2
      exact mS_X1_lookAfter_50 hR H rM K
set_option maxRecDepth 100000 in
set_option maxHeartbeats 4000000 in
theorem mS_X7_mostPerTick {R : z_Mem → Prop} (hR : y_mR R) {Q Post : Int32 → z_Mem → Prop} {a : Nat} {M : z_Mem} (H : P_X7_mostPerTick a M Q) (rM : R M) (K : ∀ x M1, Q x M1 → R M1 → Post x M1) : P_X7_mostPerTick a M Post := by
  unfold P_X7_mostPerTick at H ⊢
  obtain ⟨a2, e_a2, H⟩ := H
  refine z_nn_of e_a2 ?_
  intro x_4 e_x_4
  replace H := H x_4 e_x_4
  intro x_6 e_x_6
  replace H := H x_6 e_x_6
  refine And.intro H.1 ?_
  replace H := H.2
  exact K _ _ H rM
set_option maxRecDepth 100000 in
set_option maxHeartbeats 4000000 in
theorem mS_X7_canSend {R : z_Mem → Prop} (hR : y_mR R) {Q Post : Int32 → z_Mem → Prop} {a : Nat} {M : z_Mem} (H : P_X7_canSend a M Q) (rM : R M) (K : ∀ x M1, Q x M1 → R M1 → Post x M1) : P_X7_canSend a M Post := by
  unfold P_X7_canSend at H ⊢
  obtain ⟨a3, e_a3, H⟩ := H
  refine z_nn_of e_a3 ?_
  refine And.intro (fun c1 => ?_) (fun c1 => ?_)
  · replace H := H.1 c1
    exact K _ _ H rM
  · replace H := H.2 c1
    refine mS_X7_mostPerTick hR H rM (fun x_7 M_7 H rM_7 => ?_)
    refine And.intro (fun c2 => ?_) (fun c2 => ?_)
    · replace H := H.1 c2
      exact K _ _ H rM_7
    · replace H := H.2 c2
      exact K _ _ H rM_7
set_option maxRecDepth 100000 in
set_option maxHeartbeats 4000000 in
theorem mS_X1_routeToSend_84 {R : z_Mem → Prop} (hR : y_mR R) {Q Post : Option Nat → z_Mem → Prop} {a : Nat} {x1 : Int32} {x2 : Int32} {M : z_Mem} (H : P_X1_routeToSend_84 a Q x1 x2 M) (rM : R M) (K : ∀ x M1, Q x M1 → R M1 → Post x M1) : P_X1_routeToSend_84 a Post x1 x2 M := by
  unfold P_X1_routeToSend_84 at H ⊢
  refine And.intro (fun c1 => ?_) (fun c1 => ?_)
  · replace H := H.1 c1
    refine And.intro (fun c2 => ?_) (fun c2 => ?_)
    · replace H := H.1 c2
      exact K _ _ H rM
    · replace H := H.2 c2
      exact K _ _ H rM
  · replace H := H.2 c1
    exact K _ _ H rM
set_option maxRecDepth 100000 in
set_option maxHeartbeats 4000000 in
theorem mS_X1_routeToSend_46 {R : z_Mem → Prop} (hR : y_mR R) {Q Post : Option Nat → z_Mem → Prop} {a : Nat} {x1 : Int32} {t0 : Int32} {M : z_Mem} (H : P_X1_routeToSend_46 a Q x1 t0 M) (rM : R M) (K : ∀ x M1, Q x M1 → R M1 → Post x M1) : P_X1_routeToSend_46 a Post x1 t0 M := by
  unfold P_X1_routeToSend_46 at H ⊢
  refine And.intro (fun c1 => ?_) (fun c1 => ?_)
  · replace H := H.1 c1
    exact mS_X1_routeToSend_84 hR H rM K
  · replace H := H.2 c1
    refine And.intro (fun c2 => ?_) (fun c2 => ?_)
    · replace H := H.1 c2
      exact mS_X1_routeToSend_84 hR H rM K
    · replace H := H.2 c2
      obtain ⟨a8, e_a8, H⟩ := H
      refine z_nn_of e_a8 ?_
      obtain ⟨a11, e_a11, H⟩ := H
      refine z_nn_of e_a11 ?_
      refine And.intro (fun c3 => ?_) (fun c3 => ?_)
      · replace H := H.1 c3
        exact K _ _ H rM
      · replace H := H.2 c3
        exact K _ _ H rM
set_option maxRecDepth 100000 in
set_option maxHeartbeats 4000000 in
theorem mS_X1_routeToSend_45 {R : z_Mem → Prop} (hR : y_mR R) {Q Post : Option Nat → z_Mem → Prop} {a : Nat} {x1 : Int32} {M : z_Mem} (H : P_X1_routeToSend_45 a Q x1 M) (rM : R M) (K : ∀ x M1, Q x M1 → R M1 → Post x M1) : P_X1_routeToSend_45 a Post x1 M := by
  unfold P_X1_routeToSend_45 at H ⊢
  exact mS_X1_routeToSend_46 hR H rM K
set_option maxRecDepth 100000 in
set_option maxHeartbeats 4000000 in
theorem mS_X1_routeToSend_23 {R : z_Mem → Prop} (hR : y_mR R) {Q Post : Option Nat → z_Mem → Prop} {a : Nat} {t0 : Int32} {M : z_Mem} (H : P_X1_routeToSend_23 a Q t0 M) (rM : R M) (K : ∀ x M1, Q x M1 → R M1 → Post x M1) : P_X1_routeToSend_23 a Post t0 M := by
  unfold P_X1_routeToSend_23 at H ⊢
  refine And.intro (fun c1 => ?_) (fun c1 => ?_)
  · replace H := H.1 c1
    exact mS_X1_routeToSend_45 hR H rM K
  · replace H := H.2 c1
    obtain ⟨a20, e_a20, H⟩ := H
    refine z_nn_of e_a20 ?_
    refine mS_X7_canSend hR H rM (fun x_19 M_19 H rM_19 => ?_)
    refine And.intro (fun c2 => ?_) (fun c2 => ?_)
    · replace H := H.1 c2
      exact mS_X1_routeToSend_45 hR H rM_19 K
    · replace H := H.2 c2
      exact mS_X1_routeToSend_46 hR H rM_19 K
set_option maxRecDepth 100000 in
set_option maxHeartbeats 4000000 in
theorem mS_X1_routeToSend_22 {R : z_Mem → Prop} (hR : y_mR R) {Q Post : Option Nat → z_Mem → Prop} {a : Nat} {M : z_Mem} (H : P_X1_routeToSend_22 a Q M) (rM : R M) (K : ∀ x M1, Q x M1 → R M1 → Post x M1) : P_X1_routeToSend_22 a Post M := by
  unfold P_X1_routeToSend_22 at H ⊢
  exact mS_X1_routeToSend_23 hR H rM K
set_option maxRecDepth 100000 in
set_option maxHeartbeats 4000000 in
theorem mS_X1_routeToSend {R : z_Mem → Prop} (hR : y_mR R) {Q Post : Option Nat → z_Mem → Prop} {a : Nat} {M : z_Mem} (H : P_X1_routeToSend a M Q) (rM : R M) (K : ∀ x M1, Q x M1 → R M1 → Post x M1) : P_X1_routeToSend a M Post := by
  unfold P_X1_routeToSend at H ⊢
  refine And.intro (fun c1 => ?_) (fun c1 => ?_)
  · replace H := H.1 c1
    exact mS_X1_routeToSend_22 hR H rM K
  · replace H := H.2 c1
    obtain ⟨a26, e_a26, H⟩ := H
    refine z_nn_of e_a26 ?_
    refine mS_X7_canSend hR H rM (fun x_25 M_25 H rM_25 => ?_)
    refine And.intro (fun c2 => ?_) (fun c2 => ?_)
    · replace H := H.1 c2
      exact mS_X1_routeToSend_22 hR H rM_25 K
    · replace H := H.2 c2
      exact mS_X1_routeToSend_23 hR H rM_25 K
set_option maxRecDepth 100000 in
set_option maxHeartbeats 4000000 in
theorem mS_X9_lowestLost_2 {R : z_Mem → Prop} (hR : y_mR R) {Q Post : Int32 → z_Mem → Prop} {a : Nat} : ∀ (m : Nat) {x1 : Int32} {M : z_Mem} (H : P_X9_lowestLost_2 a Q m x1 M) (rM : R M) (K : ∀ x M1, Q x M1 → R M1 → Post x M1), P_X9_lowestLost_2 a Post m x1 M := by
  intro m
  induction m with
  | zero => intros; rename_i H _ _; exact False.elim H
  | succ m ih =>
    intro x1 M H rM K
    unfold P_X9_lowestLost_2 at H ⊢
    refine And.intro (fun c1 => ?_) (fun c1 => ?_)
    · replace H := H.1 c1
      exact K _ _ H rM
    · replace H := H.2 c1
      refine mS_X9_isLost hR H rM (fun x_2 M_2 H rM_2 => ?_)
      refine And.intro (fun c2 => ?_) (fun c2 => ?_)
      · replace H := H.1 c2
        intro x_4 e_x_4
        replace H := H x_4 e_x_4
        exact ih H rM_2 K
      · replace H := H.2 c2
        exact K _ _ H rM_2
set_option maxRecDepth 100000 in
set_option maxHeartbeats 4000000 in
theorem mS_X9_lowestLost {R : z_Mem → Prop} (hR : y_mR R) {Q Post : Int32 → z_Mem → Prop} {a : Nat} {M : z_Mem} (H : P_X9_lowestLost a M Q) (rM : R M) (K : ∀ x M1, Q x M1 → R M1 → Post x M1) : P_X9_lowestLost a M Post := by
  unfold P_X9_lowestLost at H ⊢
  obtain ⟨m, H⟩ := H
  refine ⟨m, ?_⟩
  exact mS_X9_lowestLost_2 hR m H rM K
set_option maxRecDepth 100000 in
set_option maxHeartbeats 4000000 in
theorem mS_X9_lostInARow_2 {R : z_Mem → Prop} (hR : y_mR R) {Q Post : Int32 → z_Mem → Prop} {a : Nat} : ∀ (m : Nat) {x1 : Int32} {x2 : Int32} {M : z_Mem} (H : P_X9_lostInARow_2 a Q m x1 x2 M) (rM : R M) (K : ∀ x M1, Q x M1 → R M1 → Post x M1), P_X9_lostInARow_2 a Post m x1 x2 M := by
  intro m
  induction m with
  | zero => intros; rename_i H _ _; exact False.elim H
  | succ m ih =>
    intro x1 x2 M H rM K
    unfold P_X9_lostInARow_2 at H ⊢
    refine And.intro (fun c1 => ?_) (fun c1 => ?_)
    · replace H := H.1 c1
      exact K _ _ H rM
    · replace H := H.2 c1
      refine mS_X9_isLost hR H rM (fun x_2 M_2 H rM_2 => ?_)
      refine And.intro (fun c2 => ?_) (fun c2 => ?_)
      · replace H := H.1 c2
        exact K _ _ H rM_2
      · replace H := H.2 c2
        intro x_4 e_x_4
        replace H := H x_4 e_x_4
        exact ih H rM_2 K
set_option maxRecDepth 100000 in
set_option maxHeartbeats 4000000 in
theorem mS_X9_lostInARow {R : z_Mem → Prop} (hR : y_mR R) {Q Post : Int32 → z_Mem → Prop} {a : Nat} {p1 : Int32} {M : z_Mem} (H : P_X9_lostInARow a p1 M Q) (rM : R M) (K : ∀ x M1, Q x M1 → R M1 → Post x M1) : P_X9_lostInARow a p1 M Post := by
  unfold P_X9_lostInARow at H ⊢
  obtain ⟨m, H⟩ := H
  refine ⟨m, ?_⟩
  exact mS_X9_lostInARow_2 hR m H rM K
set_option maxRecDepth 100000 in
set_option maxHeartbeats 4000000 in
theorem mS_X1_sendLost_2 {R : z_Mem → Prop} (hR : y_mR R) {Q Post : Int32 → z_Mem → Prop} {a : Nat} : ∀ (m : Nat) {x1 : Option Nat} {x2 : Int32} {M : z_Mem} (H : P_X1_sendLost_2 a Q m x1 x2 M) (rM : R M) (K : ∀ x M1, Q x M1 → R M1 → Post x M1), P_X1_sendLost_2 a Post m x1 x2 M := by
  intro m
  induction m with
  | zero => intros; rename_i H _ _; exact False.elim H
  | succ m ih =>
    intro x1 x2 M H rM K
    unfold P_X1_sendLost_2 at H ⊢
    refine And.intro (fun c1 => ?_) (fun c1 => ?_)
    · replace H := H.1 c1
      exact K _ _ H rM
    · replace H := H.2 c1
      obtain ⟨a3, e_a3, H⟩ := H
      refine z_nn_of e_a3 ?_
      refine And.intro H.1 ?_
      replace H := H.2
      obtain ⟨a5, e_a5, H⟩ := H
      refine z_nn_of e_a5 ?_
      refine And.intro (fun c2 => ?_) (fun c2 => ?_)
      · replace H := H.1 c2
        intro x_8 e_x_8
        replace H := H x_8 e_x_8
        exact ih H rM K
      · replace H := H.2 c2
        obtain ⟨a10, e_a10, H⟩ := H
        refine z_nn_of e_a10 ?_
        refine And.intro H.1 ?_
        replace H := H.2
        obtain ⟨a13, e_a13, H⟩ := H
        refine z_nn_of e_a13 ?_
        refine mS_X9_lowestLost hR H rM (fun x_12 M_12 H rM_12 => ?_)
        obtain ⟨a15, e_a15, H⟩ := H
        refine z_nn_of e_a15 ?_
        refine And.intro H.1 ?_
        replace H := H.2
        obtain ⟨a18, e_a18, H⟩ := H
        refine z_nn_of e_a18 ?_
        refine mS_X9_lostInARow hR H rM_12 (fun x_17 M_17 H rM_17 => ?_)
        refine mS_X1_sendPacket hR H rM_17 (fun M_19 H rM_19 => ?_)
        exact K _ _ H rM_19
set_option maxRecDepth 100000 in
set_option maxHeartbeats 4000000 in
theorem mS_X1_sendLost {R : z_Mem → Prop} (hR : y_mR R) {Q Post : Int32 → z_Mem → Prop} {a : Nat} {p1 : Option Nat} {M : z_Mem} (H : P_X1_sendLost a p1 M Q) (rM : R M) (K : ∀ x M1, Q x M1 → R M1 → Post x M1) : P_X1_sendLost a p1 M Post := by
  unfold P_X1_sendLost at H ⊢
  obtain ⟨m, H⟩ := H
  refine ⟨m, ?_⟩
  exact mS_X1_sendLost_2 hR m H rM K
set_option maxRecDepth 100000 in
set_option maxHeartbeats 4000000 in
theorem mS_X9_canSendAnew {R : z_Mem → Prop} (hR : y_mR R) {Q Post : Int32 → z_Mem → Prop} {a : Nat} {p1 : Int32} {M : z_Mem} (H : P_X9_canSendAnew a p1 M Q) (rM : R M) (K : ∀ x M1, Q x M1 → R M1 → Post x M1) : P_X9_canSendAnew a p1 M Post := by
  unfold P_X9_canSendAnew at H ⊢
  intro x_4 e_x_4
  replace H := H x_4 e_x_4
  exact K _ _ H rM
set_option maxRecDepth 100000 in
set_option maxHeartbeats 4000000 in
theorem mS_X1_sendNew_32 {R : z_Mem → Prop} (hR : y_mR R) {Q Post : Int32 → z_Mem → Prop} {a : Nat} : ∀ (m : Nat) {x1 : Option Nat} {x2 : Int32} {x3 : Int32} {M : z_Mem} (H : P_X1_sendNew_32 a Q m x1 x2 x3 M) (rM : R M) (K : ∀ x M1, Q x M1 → R M1 → Post x M1), P_X1_sendNew_32 a Post m x1 x2 x3 M := by
  intro m
  induction m with
  | zero => intros; rename_i H _ _; exact False.elim H
  | succ m ih =>
    intro x1 x2 x3 M H rM K
    unfold P_X1_sendNew_32 at H ⊢
    refine And.intro (fun c1 => ?_) (fun c1 => ?_)
    · replace H := H.1 c1
      exact K _ _ H rM
    · replace H := H.2 c1
      intro x_3 e_x_3
      replace H := H x_3 e_x_3
      obtain ⟨a5, e_a5, H⟩ := H
      refine z_nn_of e_a5 ?_
      refine And.intro H.1 ?_
      replace H := H.2
      obtain ⟨a8, e_a8, H⟩ := H
      refine z_nn_of e_a8 ?_
      refine mS_X9_canSendAnew hR H rM (fun x_7 M_7 H rM_7 => ?_)
      refine And.intro (fun c2 => ?_) (fun c2 => ?_)
      · replace H := H.1 c2
        intro x_10 e_x_10
        replace H := H x_10 e_x_10
        exact ih H rM_7 K
      · replace H := H.2 c2
        intro M_11 e_M_11
        replace H := H M_11 e_M_11
        have rM_11 : R M_11 := by rw [e_M_11]; exact (hR.sfi (by decide) rM_7)
        obtain ⟨a13, e_a13, H⟩ := H
        refine z_nn_of e_a13 ?_
        refine And.intro H.1 ?_
        replace H := H.2
        obtain ⟨a15, e_a15, H⟩ := H
        refine z_nn_of e_a15 ?_
        refine mS_X1_sendPacket hR H rM_11 (fun M_17 H rM_17 => ?_)
        exact K _ _ H rM_17
set_option maxRecDepth 100000 in
set_option maxHeartbeats 4000000 in
theorem mS_X1_sendNew_7 {R : z_Mem → Prop} (hR : y_mR R) {Q Post : Int32 → z_Mem → Prop} {a : Nat} : ∀ (m : Nat) {x1 : Option Nat} {x2 : Int32} {x3 : Int32} {M : z_Mem} (H : P_X1_sendNew_7 a Q m x1 x2 x3 M) (rM : R M) (K : ∀ x M1, Q x M1 → R M1 → Post x M1), P_X1_sendNew_7 a Post m x1 x2 x3 M := by
  intro m
  induction m with
  | zero => intros; rename_i H _ _; exact False.elim H
  | succ m ih =>
    intro x1 x2 x3 M H rM K
    unfold P_X1_sendNew_7 at H ⊢
    refine And.intro (fun c1 => ?_) (fun c1 => ?_)
    · replace H := H.1 c1
      obtain ⟨m, H⟩ := H
      refine ⟨m, ?_⟩
      exact mS_X1_sendNew_32 hR m H rM K
    · replace H := H.2 c1
      obtain ⟨a21, e_a21, H⟩ := H
      refine z_nn_of e_a21 ?_
      refine And.intro H.1 ?_
      replace H := H.2
      obtain ⟨a23, e_a23, H⟩ := H
      refine z_nn_of e_a23 ?_
      intro x_25 e_x_25
      replace H := H x_25 e_x_25
      intro x_26 e_x_26
      replace H := H x_26 e_x_26
      exact ih H rM K
set_option maxRecDepth 100000 in
set_option maxHeartbeats 4000000 in
theorem mS_X1_sendNew {R : z_Mem → Prop} (hR : y_mR R) {Q Post : Int32 → z_Mem → Prop} {a : Nat} {p1 : Option Nat} {M : z_Mem} (H : P_X1_sendNew a p1 M Q) (rM : R M) (K : ∀ x M1, Q x M1 → R M1 → Post x M1) : P_X1_sendNew a p1 M Post := by
  unfold P_X1_sendNew at H ⊢
  intro x_28 e_x_28
  replace H := H x_28 e_x_28
  obtain ⟨m, H⟩ := H
  refine ⟨m, ?_⟩
  exact mS_X1_sendNew_7 hR m H rM K
set_option maxRecDepth 100000 in
set_option maxHeartbeats 4000000 in
theorem mS_X1_sendData_81 {R : z_Mem → Prop} (hR : y_mR R) {Q Post : z_Mem → Prop} {a : Nat} {x1 : Int32} {x2 : Option Nat} {QJ46 PJ46 : Int32 → z_Mem → Prop} {M : z_Mem} (H : P_X1_sendData_81 a Q QJ46 x1 x2 M) (rM : R M) (K : ∀ M1, Q M1 → R M1 → Post M1) (KJ46 : ∀ v0 M1, QJ46 v0 M1 → R M1 → PJ46 v0 M1) : P_X1_sendData_81 a Post PJ46 x1 x2 M := by
  unfold P_X1_sendData_81 at H ⊢
  obtain ⟨a1, e_a1, H⟩ := H
  refine z_nn_of e_a1 ?_
  intro M_3 e_M_3
  replace H := H M_3 e_M_3
  have rM_3 : R M_3 := by rw [e_M_3]; exact (hR.sfi (by decide) rM)
  intro x_4 e_x_4
  replace H := H x_4 e_x_4
  exact KJ46 _ _ H rM_3
set_option maxRecDepth 100000 in
set_option maxHeartbeats 4000000 in
theorem mS_X1_sendData_46 {R : z_Mem → Prop} (hR : y_mR R) {Q Post : z_Mem → Prop} {a : Nat} : ∀ (m : Nat) {x1 : Int32} {M : z_Mem} (H : P_X1_sendData_46 a Q m x1 M) (rM : R M) (K : ∀ M1, Q M1 → R M1 → Post M1), P_X1_sendData_46 a Post m x1 M := by
  intro m
  induction m with
  | zero => intros; rename_i H _ _; exact False.elim H
  | succ m ih =>
    intro x1 M H rM K
    unfold P_X1_sendData_46 at H ⊢
    refine And.intro (fun c1 => ?_) (fun c1 => ?_)
    · replace H := H.1 c1
      exact K _ H rM
    · replace H := H.2 c1
      refine mS_X1_routeToSend hR H rM (fun x_6 M_6 H rM_6 => ?_)
      refine And.intro (fun c2 => ?_) (fun a7 c2 => ?_)
      · replace H := H.1 c2
        exact K _ H rM_6
      · replace H := H.2 a7 c2
        refine mS_X1_sendLost hR H rM_6 (fun x_8 M_8 H rM_8 => ?_)
        refine And.intro (fun c3 => ?_) (fun c3 => ?_)
        · replace H := H.1 c3
          refine mS_X1_sendNew hR H rM_8 (fun x_10 M_10 H rM_10 => ?_)
          refine And.intro (fun c4 => ?_) (fun c4 => ?_)
          · replace H := H.1 c4
            exact K _ H rM_10
          · replace H := H.2 c4
            exact mS_X1_sendData_81 hR H rM_10 K (fun v0 M1 q u => ih q u K)
        · replace H := H.2 c3
          exact mS_X1_sendData_81 hR H rM_8 K (fun v0 M1 q u => ih q u K)
set_option maxRecDepth 100000 in
set_option maxHeartbeats 4000000 in
theorem mS_X1_sendData_41 {R : z_Mem → Prop} (hR : y_mR R) {Q Post : z_Mem → Prop} {a : Nat} {M : z_Mem} (H : P_X1_sendData_41 a Q M) (rM : R M) (K : ∀ M1, Q M1 → R M1 → Post M1) : P_X1_sendData_41 a Post M := by
  unfold P_X1_sendData_41 at H ⊢
  intro x_13 e_x_13
  replace H := H x_13 e_x_13
  obtain ⟨m, H⟩ := H
  refine ⟨m, ?_⟩
  exact mS_X1_sendData_46 hR m H rM K
set_option maxRecDepth 100000 in
set_option maxHeartbeats 4000000 in
theorem mS_X1_sendData {R : z_Mem → Prop} (hR : y_mR R) {Q Post : z_Mem → Prop} {a : Nat} {M : z_Mem} (H : P_X1_sendData a M Q) (rM : R M) (K : ∀ M1, Q M1 → R M1 → Post M1) : P_X1_sendData a M Post := by
  unfold P_X1_sendData at H ⊢
  obtain ⟨a16, e_a16, H⟩ := H
  refine z_nn_of e_a16 ?_
  intro M_17 e_M_17
  replace H := H M_17 e_M_17
  have rM_17 : R M_17 := by rw [e_M_17]; exact (hR.sfi (by decide) rM)
  obtain ⟨a19, e_a19, H⟩ := H
  refine z_nn_of e_a19 ?_
  intro M_20 e_M_20
  replace H := H M_20 e_M_20
  have rM_20 : R M_20 := by rw [e_M_20]; exact (hR.sfi (by decide) rM_17)
  refine And.intro (fun c1 => ?_) (fun c1 => ?_)
  · replace H := H.1 c1
    exact mS_X1_sendData_41 hR H rM_20 K
  · replace H := H.2 c1
    refine And.intro (fun c2 => ?_) (fun c2 => ?_)
    · replace H := H.1 c2
      refine And.intro (fun c3 => ?_) (fun c3 => ?_)
      · replace H := H.1 c3
        exact K _ H rM_20
      · replace H := H.2 c3
        exact mS_X1_sendData_41 hR H rM_20 K
    · replace H := H.2 c2
      exact K _ H rM_20
set_option maxRecDepth 100000 in
set_option maxHeartbeats 4000000 in
theorem mS_X3_letsToClient {R : z_Mem → Prop} (hR : y_mR R) {Q Post : Int32 → z_Mem → Prop} {a : Nat} {M : z_Mem} (H : P_X3_letsToClient a M Q) (rM : R M) (K : ∀ x M1, Q x M1 → R M1 → Post x M1) : P_X3_letsToClient a M Post := by
  unfold P_X3_letsToClient at H ⊢
  refine And.intro (fun c1 => ?_) (fun c1 => ?_)
  · replace H := H.1 c1
    exact K _ _ H rM
  · replace H := H.2 c1
    refine And.intro (fun c2 => ?_) (fun c2 => ?_)
    · replace H := H.1 c2
      exact K _ _ H rM
    · replace H := H.2 c2
      intro M_6 e_M_6
      replace H := H M_6 e_M_6
      have rM_6 : R M_6 := by rw [e_M_6]; exact (hR.sfi (by decide) rM)
      exact K _ _ H rM_6
set_option maxRecDepth 100000 in
set_option maxHeartbeats 4000000 in
theorem mS_X3_removeFirst {R : z_Mem → Prop} (hR : y_mR R) {Q Post : Option Nat → z_Mem → Prop} {a : Nat} {M : z_Mem} (H : P_X3_removeFirst a M Q) (rM : R M) (K : ∀ x M1, Q x M1 → R M1 → Post x M1) : P_X3_removeFirst a M Post := by
  unfold P_X3_removeFirst at H ⊢
  obtain ⟨a3, e_a3, H⟩ := H
  refine z_nn_of e_a3 ?_
  refine And.intro H.1 ?_
  replace H := H.2
  obtain ⟨a7, e_a7, H⟩ := H
  refine z_nn_of e_a7 ?_
  refine And.intro H.1 ?_
  replace H := H.2
  intro M_9 e_M_9
  replace H := H M_9 e_M_9
  have rM_9 : R M_9 := by rw [e_M_9]; exact (hR.sar rM)
  intro M_11 e_M_11
  replace H := H M_11 e_M_11
  have rM_11 : R M_11 := by rw [e_M_11]; exact (hR.sfi (by decide) rM_9)
  intro M_13 e_M_13
  replace H := H M_13 e_M_13
  have rM_13 : R M_13 := by rw [e_M_13]; exact (hR.sfi (by decide) rM_11)
  exact K _ _ H rM_13
set_option maxRecDepth 100000 in
set_option maxHeartbeats 4000000 in
theorem mS_X3_takeLateness {R : z_Mem → Prop} (hR : y_mR R) {Q Post : Int32 → z_Mem → Prop} {a : Nat} {M : z_Mem} (H : P_X3_takeLateness a M Q) (rM : R M) (K : ∀ x M1, Q x M1 → R M1 → Post x M1) : P_X3_takeLateness a M Post := by
  unfold P_X3_takeLateness at H ⊢
  refine And.intro (fun c1 => ?_) (fun c1 => ?_)
  · replace H := H.1 c1
    intro M_4 e_M_4
    replace H := H M_4 e_M_4
    have rM_4 : R M_4 := by rw [e_M_4]; exact (hR.sfi (by decide) rM)
    exact K _ _ H rM_4
  · replace H := H.2 c1
    exact K _ _ H rM
set_option maxRecDepth 100000 in
set_option maxHeartbeats 4000000 in
theorem mS_X10_append {R : z_Mem → Prop} (hR : y_mR R) {Q Post : z_Mem → Prop} {a : Nat} {p1 : Option Nat} {p2 : Int32} {M : z_Mem} (H : P_X10_append a p1 p2 M Q) (rM : R M) (K : ∀ M1, Q M1 → R M1 → Post M1) : P_X10_append a p1 p2 M Post := by
  unfold P_X10_append at H ⊢
  obtain ⟨a3, e_a3, H⟩ := H
  refine z_nn_of e_a3 ?_
  refine And.intro (fun c1 => ?_) (fun c1 => ?_)
  · replace H := H.1 c1
    exact K _ H rM
  · replace H := H.2 c1
    obtain ⟨a5, e_a5, H⟩ := H
    refine z_nn_of e_a5 ?_
    intro M_6 e_M_6
    replace H := H M_6 e_M_6
    have rM_6 : R M_6 := by rw [e_M_6]; exact (hR.sfi (by decide) rM)
    obtain ⟨a9, e_a9, H⟩ := H
    refine z_nn_of e_a9 ?_
    refine And.intro H.1 ?_
    replace H := H.2
    intro M_11 e_M_11
    replace H := H M_11 e_M_11
    have rM_11 : R M_11 := by rw [e_M_11]; exact (hR.sar rM_6)
    intro M_13 e_M_13
    replace H := H M_13 e_M_13
    have rM_13 : R M_13 := by rw [e_M_13]; exact (hR.sfi (by decide) rM_11)
    exact K _ H rM_13
set_option maxRecDepth 100000 in
set_option maxHeartbeats 4000000 in
theorem mS_X5_putToClient {R : z_Mem → Prop} (hR : y_mR R) {Q Post : z_Mem → Prop} {a : Nat} {p1 : Int32} {p2 : Option Nat} {M : z_Mem} (H : P_X5_putToClient a p1 p2 M Q) (rM : R M) (K : ∀ M1, Q M1 → R M1 → Post M1) : P_X5_putToClient a p1 p2 M Post := by
  unfold P_X5_putToClient at H ⊢
  refine mS_X5_laneOf hR H rM (fun x_1 M_1 H rM_1 => ?_)
  obtain ⟨a2, e_a2, H⟩ := H
  refine z_nn_of e_a2 ?_
  intro M_3 e_M_3
  replace H := H M_3 e_M_3
  have rM_3 : R M_3 := by rw [e_M_3]; exact (hR.sfi (by decide) rM_1)
  obtain ⟨a5, e_a5, H⟩ := H
  refine z_nn_of e_a5 ?_
  refine mS_X3_letsToClient hR H rM_3 (fun x_4 M_4 H rM_4 => ?_)
  refine And.intro (fun c1 => ?_) (fun c1 => ?_)
  · replace H := H.1 c1
    exact K _ H rM_4
  · replace H := H.2 c1
    obtain ⟨a11, e_a11, H⟩ := H
    refine z_nn_of e_a11 ?_
    refine mS_X10_append hR H rM_4 (fun M_10 H rM_10 => ?_)
    exact K _ H rM_10
set_option maxRecDepth 100000 in
set_option maxHeartbeats 4000000 in
theorem mS_X5_putForeign_9 {R : z_Mem → Prop} (hR : y_mR R) {Q Post : Int32 → z_Mem → Prop} {a : Nat} : ∀ (m : Nat) {x2 : Int32} {x3 : Option Nat} {x4 : Int32} {M : z_Mem} (H : P_X5_putForeign_9 a Q m x2 x3 x4 M) (rM : R M) (K : ∀ x M1, Q x M1 → R M1 → Post x M1), P_X5_putForeign_9 a Post m x2 x3 x4 M := by
  intro m
  induction m with
  | zero => intros; rename_i H _ _; exact False.elim H
  | succ m ih =>
    intro x2 x3 x4 M H rM K
    unfold P_X5_putForeign_9 at H ⊢
    refine And.intro (fun c1 => ?_) (fun c1 => ?_)
    · replace H := H.1 c1
      exact K _ _ H rM
    · replace H := H.2 c1
      obtain ⟨a3, e_a3, H⟩ := H
      refine z_nn_of e_a3 ?_
      refine mS_X3_hasRoom hR H rM (fun x_2 M_2 H rM_2 => ?_)
      refine And.intro (fun c2 => ?_) (fun c2 => ?_)
      · replace H := H.1 c2
        exact K _ _ H rM_2
      · replace H := H.2 c2
        refine mS_X3_append hR H rM_2 (fun M_6 H rM_6 => ?_)
        intro x_7 e_x_7
        replace H := H x_7 e_x_7
        exact ih H rM_6 K
set_option maxRecDepth 100000 in
set_option maxHeartbeats 4000000 in
theorem mS_X5_putForeign {R : z_Mem → Prop} (hR : y_mR R) {Q Post : Int32 → z_Mem → Prop} {a : Nat} {p1 : Int32} {p2 : Int32} {M : z_Mem} (H : P_X5_putForeign a p1 p2 M Q) (rM : R M) (K : ∀ x M1, Q x M1 → R M1 → Post x M1) : P_X5_putForeign a p1 p2 M Post := by
  unfold P_X5_putForeign at H ⊢
  refine mS_X5_laneOf hR H rM (fun x_8 M_8 H rM_8 => ?_)
  obtain ⟨m, H⟩ := H
  refine ⟨m, ?_⟩
  exact mS_X5_putForeign_9 hR m H rM_8 K
set_option maxRecDepth 100000 in
set_option maxHeartbeats 4000000 in
theorem mS_X5_letLeaveLane_57 {R : z_Mem → Prop} (hR : y_mR R) {Q Post : z_Mem → Prop} {a : Nat} {x1 : Option Nat} {x2 : Int32} {QJ2 PJ2 : Option Nat → Int32 → z_Mem → Prop} {M : z_Mem} (H : P_X5_letLeaveLane_57 a Q QJ2 x1 x2 M) (rM : R M) (K : ∀ M1, Q M1 → R M1 → Post M1) (KJ2 : ∀ v0 v1 M1, QJ2 v0 v1 M1 → R M1 → PJ2 v0 v1 M1) : P_X5_letLeaveLane_57 a Post PJ2 x1 x2 M := by
  unfold P_X5_letLeaveLane_57 at H ⊢
  intro x_1 e_x_1
  replace H := H x_1 e_x_1
  exact KJ2 _ _ _ H rM
set_option maxRecDepth 100000 in
set_option maxHeartbeats 4000000 in
theorem mS_X5_letLeaveLane_2 {R : z_Mem → Prop} (hR : y_mR R) {Q Post : z_Mem → Prop} {a : Nat} : ∀ (m : Nat) {x1 : Option Nat} {x2 : Int32} {M : z_Mem} (H : P_X5_letLeaveLane_2 a Q m x1 x2 M) (rM : R M) (K : ∀ M1, Q M1 → R M1 → Post M1), P_X5_letLeaveLane_2 a Post m x1 x2 M := by
  intro m
  induction m with
  | zero => intros; rename_i H _ _; exact False.elim H
  | succ m ih =>
    intro x1 x2 M H rM K
    unfold P_X5_letLeaveLane_2 at H ⊢
    obtain ⟨a2, e_a2, H⟩ := H
    refine z_nn_of e_a2 ?_
    refine And.intro (fun c1 => ?_) (fun c1 => ?_)
    · replace H := H.1 c1
      exact K _ H rM
    · replace H := H.2 c1
      refine And.intro (fun c2 => ?_) (fun c2 => ?_)
      · replace H := H.1 c2
        exact K _ H rM
      · replace H := H.2 c2
        refine mS_X3_removeFirst hR H rM (fun x_7 M_7 H rM_7 => ?_)
        refine And.intro (fun c3 => ?_) (fun a8 c3 => ?_)
        · replace H := H.1 c3
          exact mS_X5_letLeaveLane_57 hR H rM_7 K (fun v0 v1 M1 q u => ih q u K)
        · replace H := H.2 a8 c3
          refine And.intro (fun c4 => ?_) (fun c4 => ?_)
          · replace H := H.1 c4
            exact mS_X5_letLeaveLane_57 hR H rM_7 K (fun v0 v1 M1 q u => ih q u K)
          · replace H := H.2 c4
            refine mS_X3_takeLateness hR H rM_7 (fun x_14 M_14 H rM_14 => ?_)
            obtain ⟨a16, e_a16, H⟩ := H
            refine z_nn_of e_a16 ?_
            refine mS_X10_append hR H rM_14 (fun M_15 H rM_15 => ?_)
            exact mS_X5_letLeaveLane_57 hR H rM_15 K (fun v0 v1 M1 q u => ih q u K)
set_option maxRecDepth 100000 in
set_option maxHeartbeats 4000000 in
theorem mS_X5_letLeaveLane {R : z_Mem → Prop} (hR : y_mR R) {Q Post : z_Mem → Prop} {a : Nat} {p1 : Option Nat} {M : z_Mem} (H : P_X5_letLeaveLane a p1 M Q) (rM : R M) (K : ∀ M1, Q M1 → R M1 → Post M1) : P_X5_letLeaveLane a p1 M Post := by
  unfold P_X5_letLeaveLane at H ⊢
  obtain ⟨m, H⟩ := H
  refine ⟨m, ?_⟩
  exact mS_X5_letLeaveLane_2 hR m H rM K
set_option maxRecDepth 100000 in
set_option maxHeartbeats 4000000 in
theorem mS_X5_letLeave {R : z_Mem → Prop} (hR : y_mR R) {Q Post : z_Mem → Prop} {a : Nat} {M : z_Mem} (H : P_X5_letLeave a M Q) (rM : R M) (K : ∀ M1, Q M1 → R M1 → Post M1) : P_X5_letLeave a M Post := by
  unfold P_X5_letLeave at H ⊢
  refine mS_X5_letLeaveLane hR H rM (fun M_2 H rM_2 => ?_)
  refine mS_X5_letLeaveLane hR H rM_2 (fun M_4 H rM_4 => ?_)
  exact K _ H rM_4
set_option maxRecDepth 100000 in
set_option maxHeartbeats 4000000 in
theorem mS_X8_nextTaken_2 {R : z_Mem → Prop} (hR : y_mR R) {Q Post : Int32 → z_Mem → Prop} {a : Nat} : ∀ (m : Nat) {x2 : Int32} {x3 : Int32} {M : z_Mem} (H : P_X8_nextTaken_2 a Q m x2 x3 M) (rM : R M) (K : ∀ x M1, Q x M1 → R M1 → Post x M1), P_X8_nextTaken_2 a Post m x2 x3 M := by
  intro m
  induction m with
  | zero => intros; rename_i H _ _; exact False.elim H
  | succ m ih =>
    intro x2 x3 M H rM K
    unfold P_X8_nextTaken_2 at H ⊢
    refine And.intro (fun c1 => ?_) (fun c1 => ?_)
    · replace H := H.1 c1
      exact K _ _ H rM
    · replace H := H.2 c1
      refine And.intro (fun c2 => ?_) (fun c2 => ?_)
      · replace H := H.1 c2
        exact K _ _ H rM
      · replace H := H.2 c2
        obtain ⟨a4, e_a4, H⟩ := H
        refine z_nn_of e_a4 ?_
        refine And.intro H.1 ?_
        replace H := H.2
        refine And.intro (fun c3 => ?_) (fun c3 => ?_)
        · replace H := H.1 c3
          exact K _ _ H rM
        · replace H := H.2 c3
          intro x_7 e_x_7
          replace H := H x_7 e_x_7
          exact ih H rM K
set_option maxRecDepth 100000 in
set_option maxHeartbeats 4000000 in
theorem mS_X8_nextTaken {R : z_Mem → Prop} (hR : y_mR R) {Q Post : Int32 → z_Mem → Prop} {a : Nat} {p1 : Int32} {p2 : Int32} {M : z_Mem} (H : P_X8_nextTaken a p1 p2 M Q) (rM : R M) (K : ∀ x M1, Q x M1 → R M1 → Post x M1) : P_X8_nextTaken a p1 p2 M Post := by
  unfold P_X8_nextTaken at H ⊢
  obtain ⟨m, H⟩ := H
  refine ⟨m, ?_⟩
  exact mS_X8_nextTaken_2 hR m H rM K
set_option maxRecDepth 100000 in
set_option maxHeartbeats 4000000 in
theorem mS_X8_makeAck_73 {R : z_Mem → Prop} (hR : y_mR R) {Q Post : Option Nat → z_Mem → Prop} {a : Nat} : ∀ (m : Nat) {x1 : Option Nat} {x3 : Int32} {x4 : Int32} {M : z_Mem} (H : P_X8_makeAck_73 a Q m x1 x3 x4 M) (rM : R M) (K : ∀ x M1, Q x M1 → R M1 → Post x M1), P_X8_makeAck_73 a Post m x1 x3 x4 M := by
  intro m
  induction m with
  | zero => intros; rename_i H _ _; exact False.elim H
  | succ m ih =>
    intro x1 x3 x4 M H rM K
    unfold P_X8_makeAck_73 at H ⊢
    refine And.intro (fun c1 => ?_) (fun c1 => ?_)
    · replace H := H.1 c1
      obtain ⟨a2, e_a2, H⟩ := H
      refine z_nn_of e_a2 ?_
      intro M_3 e_M_3
      replace H := H M_3 e_M_3
      have rM_3 : R M_3 := by rw [e_M_3]; exact (hR.sfi (by decide) rM)
      exact K _ _ H rM_3
    · replace H := H.2 c1
      obtain ⟨a4, e_a4, H⟩ := H
      refine z_nn_of e_a4 ?_
      obtain ⟨a7, e_a7, H⟩ := H
      refine z_nn_of e_a7 ?_
      refine And.intro H.1 ?_
      replace H := H.2
      obtain ⟨a9, e_a9, H⟩ := H
      refine z_nn_of e_a9 ?_
      obtain ⟨a11, e_a11, H⟩ := H
      refine z_nn_of e_a11 ?_
      refine And.intro H.1 ?_
      replace H := H.2
      intro M_13 e_M_13
      replace H := H M_13 e_M_13
      have rM_13 : R M_13 := by rw [e_M_13]; exact (hR.sai rM)
      obtain ⟨a15, e_a15, H⟩ := H
      refine z_nn_of e_a15 ?_
      refine And.intro H.1 ?_
      replace H := H.2
      obtain ⟨a17, e_a17, H⟩ := H
      refine z_nn_of e_a17 ?_
      intro x_19 e_x_19
      replace H := H x_19 e_x_19
      intro x_20 e_x_20
      replace H := H x_20 e_x_20
      exact ih H rM_13 K
set_option maxRecDepth 100000 in
set_option maxHeartbeats 4000000 in
theorem mS_X8_makeAck_60 {R : z_Mem → Prop} (hR : y_mR R) {Q Post : Option Nat → z_Mem → Prop} {a : Nat} {x1 : Option Nat} {M : z_Mem} (H : P_X8_makeAck_60 a Q x1 M) (rM : R M) (K : ∀ x M1, Q x M1 → R M1 → Post x M1) : P_X8_makeAck_60 a Post x1 M := by
  unfold P_X8_makeAck_60 at H ⊢
  obtain ⟨a22, e_a22, H⟩ := H
  refine z_nn_of e_a22 ?_
  intro M_23 e_M_23
  replace H := H M_23 e_M_23
  have rM_23 : R M_23 := by rw [e_M_23]; exact (hR.sfi (by decide) rM)
  obtain ⟨m, H⟩ := H
  refine ⟨m, ?_⟩
  exact mS_X8_makeAck_73 hR m H rM_23 K
set_option maxRecDepth 100000 in
set_option maxHeartbeats 4000000 in
theorem mS_X8_makeAck_20 {R : z_Mem → Prop} (hR : y_mR R) {Q Post : Option Nat → z_Mem → Prop} {a : Nat} : ∀ (m : Nat) {x1 : Option Nat} {x2 : Int32} {x3 : Int32} {M : z_Mem} (H : P_X8_makeAck_20 a Q m x1 x2 x3 M) (rM : R M) (K : ∀ x M1, Q x M1 → R M1 → Post x M1), P_X8_makeAck_20 a Post m x1 x2 x3 M := by
  intro m
  induction m with
  | zero => intros; rename_i H _ _; exact False.elim H
  | succ m ih =>
    intro x1 x2 x3 M H rM K
    unfold P_X8_makeAck_20 at H ⊢
    refine And.intro (fun c1 => ?_) (fun c1 => ?_)
    · replace H := H.1 c1
      exact mS_X8_makeAck_60 hR H rM K
    · replace H := H.2 c1
      refine And.intro (fun c2 => ?_) (fun c2 => ?_)
      · replace H := H.1 c2
        exact mS_X8_makeAck_60 hR H rM K
      · replace H := H.2 c2
        refine mS_X8_nextTaken hR H rM (fun x_27 M_27 H rM_27 => ?_)
        obtain ⟨a29, e_a29, H⟩ := H
        refine z_nn_of e_a29 ?_
        refine mS_X0_addRange hR H rM_27 (fun M_28 H rM_28 => ?_)
        refine mS_X8_nextTaken hR H rM_28 (fun x_30 M_30 H rM_30 => ?_)
        intro x_31 e_x_31
        replace H := H x_31 e_x_31
        exact ih H rM_30 K
set_option maxRecDepth 100000 in
set_option maxHeartbeats 4000000 in
theorem mS_X8_makeAck {R : z_Mem → Prop} (hR : y_mR R) {Q Post : Option Nat → z_Mem → Prop} {a : Nat} {M : z_Mem} (H : P_X8_makeAck a M Q) (rM : R M) (K : ∀ x M1, Q x M1 → R M1 → Post x M1) : P_X8_makeAck a M Post := by
  unfold P_X8_makeAck at H ⊢
  refine And.intro H.1 ?_
  replace H := H.2
  intro M_33 e_M_33
  replace H := H M_33 e_M_33
  have rM_33 : R M_33 := by rw [e_M_33]; exact (hR.new rM)
  refine mS_X0_init hR H rM_33 (fun M_34 H rM_34 => ?_)
  refine mS_X8_nextTaken hR H rM_34 (fun x_36 M_36 H rM_36 => ?_)
  obtain ⟨m, H⟩ := H
  refine ⟨m, ?_⟩
  exact mS_X8_makeAck_20 hR m H rM_36 K
set_option maxRecDepth 100000 in
set_option maxHeartbeats 4000000 in
theorem mS_X8_acknowledge {R : z_Mem → Prop} (hR : y_mR R) {Q Post : z_Mem → Prop} {a : Nat} {M : z_Mem} (H : P_X8_acknowledge a M Q) (rM : R M) (K : ∀ M1, Q M1 → R M1 → Post M1) : P_X8_acknowledge a M Post := by
  unfold P_X8_acknowledge at H ⊢
  refine And.intro (fun c1 => ?_) (fun c1 => ?_)
  · replace H := H.1 c1
    refine And.intro (fun c2 => ?_) (fun c2 => ?_)
    · replace H := H.1 c2
      exact K _ H rM
    · replace H := H.2 c2
      intro M_6 e_M_6
      replace H := H M_6 e_M_6
      have rM_6 : R M_6 := by rw [e_M_6]; exact (hR.sfi (by decide) rM)
      intro M_7 e_M_7
      replace H := H M_7 e_M_7
      have rM_7 : R M_7 := by rw [e_M_7]; exact (hR.sfi (by decide) rM_6)
      intro M_8 e_M_8
      replace H := H M_8 e_M_8
      have rM_8 : R M_8 := by rw [e_M_8]; exact (hR.sfi (by decide) rM_7)
      refine And.intro H.1 ?_
      replace H := H.2
      intro M_10 e_M_10
      replace H := H M_10 e_M_10
      have rM_10 : R M_10 := by rw [e_M_10]; exact (hR.new rM_8)
      refine mS_X4_init hR H rM_10 (fun M_11 H rM_11 => ?_)
      refine mS_X8_makeAck hR H rM_11 (fun x_12 M_12 H rM_12 => ?_)
      intro M_13 e_M_13
      replace H := H M_13 e_M_13
      have rM_13 : R M_13 := by rw [e_M_13]; exact (hR.sfr rM_12)
      obtain ⟨a17, e_a17, H⟩ := H
      refine z_nn_of e_a17 ?_
      refine mS_X5_putToClient hR H rM_13 (fun M_16 H rM_16 => ?_)
      exact K _ H rM_16
  · replace H := H.2 c1
    exact K _ H rM
set_option maxRecDepth 100000 in
set_option maxHeartbeats 4000000 in
theorem mS_X8_readBytes {R : z_Mem → Prop} (hR : y_mR R) {Q Post : Int32 → z_Mem → Prop} {a : Nat} {p1 : Option Nat} {p2 : Int32} {M : z_Mem} (H : P_X8_readBytes a p1 p2 M Q) (rM : R M) (K : ∀ x M1, Q x M1 → R M1 → Post x M1) : P_X8_readBytes a p1 p2 M Post := by
  unfold P_X8_readBytes at H ⊢
  obtain ⟨a1, e_a1, H⟩ := H
  refine z_nn_of e_a1 ?_
  intro x_4 e_x_4
  replace H := H x_4 e_x_4
  intro M_6 e_M_6
  replace H := H M_6 e_M_6
  have rM_6 : R M_6 := by rw [e_M_6]; exact (hR.sfi (by decide) rM)
  refine And.intro (fun c1 => ?_) (fun c1 => ?_)
  · replace H := H.1 c1
    exact K _ _ H rM_6
  · replace H := H.2 c1
    refine mS_X8_acknowledge hR H rM_6 (fun M_8 H rM_8 => ?_)
    exact K _ _ H rM_8
set_option maxRecDepth 100000 in
set_option maxHeartbeats 4000000 in
theorem mS_X11_clearRow_2 {R : z_Mem → Prop} (hR : y_mR R) {Q Post : z_Mem → Prop} : ∀ (m : Nat) {x0 : Option Nat} {x1 : Int32} {M : z_Mem} (H : P_X11_clearRow_2 Q m x0 x1 M) (rM : R M) (K : ∀ M1, Q M1 → R M1 → Post M1), P_X11_clearRow_2 Post m x0 x1 M := by
  intro m
  induction m with
  | zero => intros; rename_i H _ _; exact False.elim H
  | succ m ih =>
    intro x0 x1 M H rM K
    unfold P_X11_clearRow_2 at H ⊢
    obtain ⟨a1, e_a1, H⟩ := H
    refine z_nn_of e_a1 ?_
    refine And.intro (fun c1 => ?_) (fun c1 => ?_)
    · replace H := H.1 c1
      exact K _ H rM
    · replace H := H.2 c1
      refine And.intro H.1 ?_
      replace H := H.2
      intro M_4 e_M_4
      replace H := H M_4 e_M_4
      have rM_4 : R M_4 := by rw [e_M_4]; exact (hR.sai rM)
      intro x_5 e_x_5
      replace H := H x_5 e_x_5
      exact ih H rM_4 K
set_option maxRecDepth 100000 in
set_option maxHeartbeats 4000000 in
theorem mS_X11_clearRow {R : z_Mem → Prop} (hR : y_mR R) {Q Post : z_Mem → Prop} {p1 : Option Nat} {M : z_Mem} (H : P_X11_clearRow p1 M Q) (rM : R M) (K : ∀ M1, Q M1 → R M1 → Post M1) : P_X11_clearRow p1 M Post := by
  unfold P_X11_clearRow at H ⊢
  obtain ⟨m, H⟩ := H
  refine ⟨m, ?_⟩
  exact mS_X11_clearRow_2 hR m H rM K
set_option maxRecDepth 100000 in
set_option maxHeartbeats 4000000 in
theorem mS_X8_forget {R : z_Mem → Prop} (hR : y_mR R) {Q Post : z_Mem → Prop} {a : Nat} {M : z_Mem} (H : P_X8_forget a M Q) (rM : R M) (K : ∀ M1, Q M1 → R M1 → Post M1) : P_X8_forget a M Post := by
  unfold P_X8_forget at H ⊢
  intro M_1 e_M_1
  replace H := H M_1 e_M_1
  have rM_1 : R M_1 := by rw [e_M_1]; exact (hR.sfi (by decide) rM)
  intro M_2 e_M_2
  replace H := H M_2 e_M_2
  have rM_2 : R M_2 := by rw [e_M_2]; exact (hR.sfi (by decide) rM_1)
  refine mS_X11_clearRow hR H rM_2 (fun M_4 H rM_4 => ?_)
  intro M_5 e_M_5
  replace H := H M_5 e_M_5
  have rM_5 : R M_5 := by rw [e_M_5]; exact (hR.sfi (by decide) rM_4)
  intro M_6 e_M_6
  replace H := H M_6 e_M_6
  have rM_6 : R M_6 := by rw [e_M_6]; exact (hR.sfi (by decide) rM_5)
  intro M_7 e_M_7
  replace H := H M_7 e_M_7
  have rM_7 : R M_7 := by rw [e_M_7]; exact (hR.sfi (by decide) rM_6)
  intro M_8 e_M_8
  replace H := H M_8 e_M_8
  have rM_8 : R M_8 := by rw [e_M_8]; exact (hR.sfi (by decide) rM_7)
  intro M_9 e_M_9
  replace H := H M_9 e_M_9
  have rM_9 : R M_9 := by rw [e_M_9]; exact (hR.sfi (by decide) rM_8)
  exact K _ H rM_9
set_option maxRecDepth 100000 in
set_option maxHeartbeats 4000000 in
theorem mS_X8_useTicket {R : z_Mem → Prop} (hR : y_mR R) {Q Post : Int32 → z_Mem → Prop} {a : Nat} {p1 : Int32} {M : z_Mem} (H : P_X8_useTicket a p1 M Q) (rM : R M) (K : ∀ x M1, Q x M1 → R M1 → Post x M1) : P_X8_useTicket a p1 M Post := by
  unfold P_X8_useTicket at H ⊢
  refine And.intro (fun c1 => ?_) (fun c1 => ?_)
  · replace H := H.1 c1
    exact K _ _ H rM
  · replace H := H.2 c1
    refine And.intro (fun c2 => ?_) (fun c2 => ?_)
    · replace H := H.1 c2
      exact K _ _ H rM
    · replace H := H.2 c2
      obtain ⟨a4, e_a4, H⟩ := H
      refine z_nn_of e_a4 ?_
      refine And.intro H.1 ?_
      replace H := H.2
      refine And.intro (fun c3 => ?_) (fun c3 => ?_)
      · replace H := H.1 c3
        obtain ⟨a8, e_a8, H⟩ := H
        refine z_nn_of e_a8 ?_
        refine And.intro H.1 ?_
        replace H := H.2
        intro M_10 e_M_10
        replace H := H M_10 e_M_10
        have rM_10 : R M_10 := by rw [e_M_10]; exact (hR.sai rM)
        exact K _ _ H rM_10
      · replace H := H.2 c3
        exact K _ _ H rM
set_option maxRecDepth 100000 in
set_option maxHeartbeats 4000000 in
theorem mS_X8_hearHello_59 {R : z_Mem → Prop} (hR : y_mR R) {Q Post : z_Mem → Prop} {a : Nat} {x1 : Option Nat} {M : z_Mem} (H : P_X8_hearHello_59 a Q x1 M) (rM : R M) (K : ∀ M1, Q M1 → R M1 → Post M1) : P_X8_hearHello_59 a Post x1 M := by
  unfold P_X8_hearHello_59 at H ⊢
  refine And.intro H.1 ?_
  replace H := H.2
  intro M_2 e_M_2
  replace H := H M_2 e_M_2
  have rM_2 : R M_2 := by rw [e_M_2]; exact (hR.new rM)
  refine mS_X4_init hR H rM_2 (fun M_3 H rM_3 => ?_)
  intro M_5 e_M_5
  replace H := H M_5 e_M_5
  have rM_5 : R M_5 := by rw [e_M_5]; exact (hR.sfi (by decide) rM_3)
  obtain ⟨a7, e_a7, H⟩ := H
  refine z_nn_of e_a7 ?_
  obtain ⟨a10, e_a10, H⟩ := H
  refine z_nn_of e_a10 ?_
  refine mS_X5_putToClient hR H rM_5 (fun M_9 H rM_9 => ?_)
  exact K _ H rM_9
set_option maxRecDepth 100000 in
set_option maxHeartbeats 4000000 in
theorem mS_X8_hearHello_42 {R : z_Mem → Prop} (hR : y_mR R) {Q Post : z_Mem → Prop} {a : Nat} {x1 : Option Nat} {M : z_Mem} (H : P_X8_hearHello_42 a Q x1 M) (rM : R M) (K : ∀ M1, Q M1 → R M1 → Post M1) : P_X8_hearHello_42 a Post x1 M := by
  unfold P_X8_hearHello_42 at H ⊢
  intro M_11 e_M_11
  replace H := H M_11 e_M_11
  have rM_11 : R M_11 := by rw [e_M_11]; exact (hR.sfi (by decide) rM)
  obtain ⟨a12, e_a12, H⟩ := H
  refine z_nn_of e_a12 ?_
  refine mS_X8_useTicket hR H rM_11 (fun x_14 M_14 H rM_14 => ?_)
  intro M_15 e_M_15
  replace H := H M_15 e_M_15
  have rM_15 : R M_15 := by rw [e_M_15]; exact (hR.sfi (by decide) rM_14)
  exact mS_X8_hearHello_59 hR H rM_15 K
set_option maxRecDepth 100000 in
set_option maxHeartbeats 4000000 in
theorem mS_X8_hearHello {R : z_Mem → Prop} (hR : y_mR R) {Q Post : z_Mem → Prop} {a : Nat} {p1 : Option Nat} {M : z_Mem} (H : P_X8_hearHello a p1 M Q) (rM : R M) (K : ∀ M1, Q M1 → R M1 → Post M1) : P_X8_hearHello a p1 M Post := by
  unfold P_X8_hearHello at H ⊢
  refine And.intro (fun c1 => ?_) (fun c1 => ?_)
  · replace H := H.1 c1
    exact mS_X8_hearHello_59 hR H rM K
  · replace H := H.2 c1
    refine And.intro (fun c2 => ?_) (fun c2 => ?_)
    · replace H := H.1 c2
      exact mS_X8_hearHello_42 hR H rM K
    · replace H := H.2 c2
      obtain ⟨a20, e_a20, H⟩ := H
      refine z_nn_of e_a20 ?_
      refine And.intro (fun c3 => ?_) (fun c3 => ?_)
      · replace H := H.1 c3
        refine And.intro H.1 ?_
        replace H := H.2
        intro M_26 e_M_26
        replace H := H M_26 e_M_26
        have rM_26 : R M_26 := by rw [e_M_26]; exact (hR.new rM)
        refine mS_X4_init hR H rM_26 (fun M_27 H rM_27 => ?_)
        obtain ⟨a29, e_a29, H⟩ := H
        refine z_nn_of e_a29 ?_
        refine mS_X5_putToClient hR H rM_27 (fun M_28 H rM_28 => ?_)
        exact K _ H rM_28
      · replace H := H.2 c3
        exact mS_X8_hearHello_42 hR H rM K
set_option maxRecDepth 100000 in
set_option maxHeartbeats 4000000 in
theorem mS_X8_takesKey_35 {R : z_Mem → Prop} (hR : y_mR R) {Q Post : Int32 → z_Mem → Prop} {a : Nat} {x1 : Int32} {M : z_Mem} (H : P_X8_takesKey_35 a Q x1 M) (rM : R M) (K : ∀ x M1, Q x M1 → R M1 → Post x M1) : P_X8_takesKey_35 a Post x1 M := by
  unfold P_X8_takesKey_35 at H ⊢
  refine And.intro (fun c1 => ?_) (fun c1 => ?_)
  · replace H := H.1 c1
    exact K _ _ H rM
  · replace H := H.2 c1
    refine And.intro (fun c2 => ?_) (fun c2 => ?_)
    · replace H := H.1 c2
      obtain ⟨a6, e_a6, H⟩ := H
      refine z_nn_of e_a6 ?_
      refine And.intro (fun c3 => ?_) (fun c3 => ?_)
      · replace H := H.1 c3
        exact K _ _ H rM
      · replace H := H.2 c3
        exact K _ _ H rM
    · replace H := H.2 c2
      exact K _ _ H rM
set_option maxRecDepth 100000 in
set_option maxHeartbeats 4000000 in
theorem mS_X8_takesKey {R : z_Mem → Prop} (hR : y_mR R) {Q Post : Int32 → z_Mem → Prop} {a : Nat} {p1 : Int32} {M : z_Mem} (H : P_X8_takesKey a p1 M Q) (rM : R M) (K : ∀ x M1, Q x M1 → R M1 → Post x M1) : P_X8_takesKey a p1 M Post := by
  unfold P_X8_takesKey at H ⊢
  refine And.intro (fun c1 => ?_) (fun c1 => ?_)
  · replace H := H.1 c1
    exact mS_X8_takesKey_35 hR H rM K
  · replace H := H.2 c1
    intro M_13 e_M_13
    replace H := H M_13 e_M_13
    have rM_13 : R M_13 := by rw [e_M_13]; exact (hR.sfi (by decide) rM)
    obtain ⟨a15, e_a15, H⟩ := H
    refine z_nn_of e_a15 ?_
    intro M_17 e_M_17
    replace H := H M_17 e_M_17
    have rM_17 : R M_17 := by rw [e_M_17]; exact (hR.sfi (by decide) rM_13)
    intro M_18 e_M_18
    replace H := H M_18 e_M_18
    have rM_18 : R M_18 := by rw [e_M_18]; exact (hR.sfi (by decide) rM_17)
    exact mS_X8_takesKey_35 hR H rM_18 K
set_option maxRecDepth 100000 in
set_option maxHeartbeats 4000000 in
theorem mS_X11_markRow_6 {R : z_Mem → Prop} (hR : y_mR R) {Q Post : z_Mem → Prop} : ∀ (m : Nat) {x0 : Option Nat} {x1 : Int32} {x2 : Int32} {x3 : Int32} {M : z_Mem} (H : P_X11_markRow_6 Q m x0 x1 x2 x3 M) (rM : R M) (K : ∀ M1, Q M1 → R M1 → Post M1), P_X11_markRow_6 Post m x0 x1 x2 x3 M := by
  intro m
  induction m with
  | zero => intros; rename_i H _ _; exact False.elim H
  | succ m ih =>
    intro x0 x1 x2 x3 M H rM K
    unfold P_X11_markRow_6 at H ⊢
    refine And.intro (fun c1 => ?_) (fun c1 => ?_)
    · replace H := H.1 c1
      exact K _ H rM
    · replace H := H.2 c1
      obtain ⟨a2, e_a2, H⟩ := H
      refine z_nn_of e_a2 ?_
      refine And.intro (fun c2 => ?_) (fun c2 => ?_)
      · replace H := H.1 c2
        exact K _ H rM
      · replace H := H.2 c2
        refine And.intro H.1 ?_
        replace H := H.2
        intro M_5 e_M_5
        replace H := H M_5 e_M_5
        have rM_5 : R M_5 := by rw [e_M_5]; exact (hR.sai rM)
        intro x_6 e_x_6
        replace H := H x_6 e_x_6
        exact ih H rM_5 K
set_option maxRecDepth 100000 in
set_option maxHeartbeats 4000000 in
theorem mS_X11_markRow {R : z_Mem → Prop} (hR : y_mR R) {Q Post : z_Mem → Prop} {p1 : Option Nat} {p2 : Int32} {p3 : Int32} {M : z_Mem} (H : P_X11_markRow p1 p2 p3 M Q) (rM : R M) (K : ∀ M1, Q M1 → R M1 → Post M1) : P_X11_markRow p1 p2 p3 M Post := by
  unfold P_X11_markRow at H ⊢
  intro x_7 e_x_7
  replace H := H x_7 e_x_7
  obtain ⟨m, H⟩ := H
  refine ⟨m, ?_⟩
  exact mS_X11_markRow_6 hR m H rM K
set_option maxRecDepth 100000 in
set_option maxHeartbeats 4000000 in
theorem mS_X11_lengthOfPrefix_6 {R : z_Mem → Prop} (hR : y_mR R) {Q Post : Int32 → z_Mem → Prop} : ∀ (m : Nat) {x0 : Option Nat} {x2 : Int32} {M : z_Mem} (H : P_X11_lengthOfPrefix_6 Q m x0 x2 M) (rM : R M) (K : ∀ x M1, Q x M1 → R M1 → Post x M1), P_X11_lengthOfPrefix_6 Post m x0 x2 M := by
  intro m
  induction m with
  | zero => intros; rename_i H _ _; exact False.elim H
  | succ m ih =>
    intro x0 x2 M H rM K
    unfold P_X11_lengthOfPrefix_6 at H ⊢
    obtain ⟨a1, e_a1, H⟩ := H
    refine z_nn_of e_a1 ?_
    refine And.intro (fun c1 => ?_) (fun c1 => ?_)
    · replace H := H.1 c1
      exact K _ _ H rM
    · replace H := H.2 c1
      refine And.intro H.1 ?_
      replace H := H.2
      refine And.intro (fun c2 => ?_) (fun c2 => ?_)
      · replace H := H.1 c2
        exact K _ _ H rM
      · replace H := H.2 c2
        intro x_5 e_x_5
        replace H := H x_5 e_x_5
        exact ih H rM K
set_option maxRecDepth 100000 in
set_option maxHeartbeats 4000000 in
theorem mS_X11_lengthOfPrefix {R : z_Mem → Prop} (hR : y_mR R) {Q Post : Int32 → z_Mem → Prop} {p1 : Option Nat} {p2 : Int32} {M : z_Mem} (H : P_X11_lengthOfPrefix p1 p2 M Q) (rM : R M) (K : ∀ x M1, Q x M1 → R M1 → Post x M1) : P_X11_lengthOfPrefix p1 p2 M Post := by
  unfold P_X11_lengthOfPrefix at H ⊢
  intro x_6 e_x_6
  replace H := H x_6 e_x_6
  obtain ⟨m, H⟩ := H
  refine ⟨m, ?_⟩
  exact mS_X11_lengthOfPrefix_6 hR m H rM K
set_option maxRecDepth 100000 in
set_option maxHeartbeats 4000000 in
theorem mS_X9_arrive {R : z_Mem → Prop} (hR : y_mR R) {Q Post : z_Mem → Prop} {a : Nat} {p1 : Int32} {p2 : Int32} {M : z_Mem} (H : P_X9_arrive a p1 p2 M Q) (rM : R M) (K : ∀ M1, Q M1 → R M1 → Post M1) : P_X9_arrive a p1 p2 M Post := by
  unfold P_X9_arrive at H ⊢
  refine mS_X11_markRow hR H rM (fun M_2 H rM_2 => ?_)
  refine mS_X11_lengthOfPrefix hR H rM_2 (fun x_5 M_5 H rM_5 => ?_)
  intro M_6 e_M_6
  replace H := H M_6 e_M_6
  have rM_6 : R M_6 := by rw [e_M_6]; exact (hR.sfi (by decide) rM_5)
  exact K _ H rM_6
set_option maxRecDepth 100000 in
set_option maxHeartbeats 4000000 in
theorem mS_X8_hearData_169 {R : z_Mem → Prop} (hR : y_mR R) {Q Post : z_Mem → Prop} {a : Nat} {x4 : Int32} {M : z_Mem} (H : P_X8_hearData_169 a Q x4 M) (rM : R M) (K : ∀ M1, Q M1 → R M1 → Post M1) : P_X8_hearData_169 a Post x4 M := by
  unfold P_X8_hearData_169 at H ⊢
  refine And.intro (fun c1 => ?_) (fun c1 => ?_)
  · replace H := H.1 c1
    obtain ⟨a3, e_a3, H⟩ := H
    refine z_nn_of e_a3 ?_
    intro M_5 e_M_5
    replace H := H M_5 e_M_5
    have rM_5 : R M_5 := by rw [e_M_5]; exact (hR.sfi (by decide) rM)
    exact K _ H rM_5
  · replace H := H.2 c1
    refine mS_X8_acknowledge hR H rM (fun M_6 H rM_6 => ?_)
    exact K _ H rM_6
set_option maxRecDepth 100000 in
set_option maxHeartbeats 4000000 in
theorem mS_X8_hearData_121 {R : z_Mem → Prop} (hR : y_mR R) {Q Post : z_Mem → Prop} {a : Nat} {x1 : Option Nat} {x3 : Int32} {t0 : Int32} {M : z_Mem} (H : P_X8_hearData_121 a Q x1 x3 t0 M) (rM : R M) (K : ∀ M1, Q M1 → R M1 → Post M1) : P_X8_hearData_121 a Post x1 x3 t0 M := by
  unfold P_X8_hearData_121 at H ⊢
  obtain ⟨a8, e_a8, H⟩ := H
  refine z_nn_of e_a8 ?_
  refine And.intro H.1 ?_
  replace H := H.2
  intro M_10 e_M_10
  replace H := H M_10 e_M_10
  have rM_10 : R M_10 := by rw [e_M_10]; exact (hR.sai rM)
  intro M_12 e_M_12
  replace H := H M_12 e_M_12
  have rM_12 : R M_12 := by rw [e_M_12]; exact (hR.sfi (by decide) rM_10)
  intro M_14 e_M_14
  replace H := H M_14 e_M_14
  have rM_14 : R M_14 := by rw [e_M_14]; exact (hR.sfi (by decide) rM_12)
  obtain ⟨a15, e_a15, H⟩ := H
  refine z_nn_of e_a15 ?_
  refine And.intro (fun c1 => ?_) (fun c1 => ?_)
  · replace H := H.1 c1
    exact mS_X8_hearData_169 hR H rM_14 K
  · replace H := H.2 c1
    intro M_19 e_M_19
    replace H := H M_19 e_M_19
    have rM_19 : R M_19 := by rw [e_M_19]; exact (hR.sfi (by decide) rM_14)
    exact mS_X8_hearData_169 hR H rM_19 K
set_option maxRecDepth 100000 in
set_option maxHeartbeats 4000000 in
theorem mS_X8_hearData_116 {R : z_Mem → Prop} (hR : y_mR R) {Q Post : z_Mem → Prop} {a : Nat} {x1 : Option Nat} {x3 : Int32} {M : z_Mem} (H : P_X8_hearData_116 a Q x1 x3 M) (rM : R M) (K : ∀ M1, Q M1 → R M1 → Post M1) : P_X8_hearData_116 a Post x1 x3 M := by
  unfold P_X8_hearData_116 at H ⊢
  exact mS_X8_hearData_121 hR H rM K
set_option maxRecDepth 100000 in
set_option maxHeartbeats 4000000 in
theorem mS_X8_hearData_92 {R : z_Mem → Prop} (hR : y_mR R) {Q Post : z_Mem → Prop} {a : Nat} {x1 : Option Nat} {x3 : Int32} {M : z_Mem} (H : P_X8_hearData_92 a Q x1 x3 M) (rM : R M) (K : ∀ M1, Q M1 → R M1 → Post M1) : P_X8_hearData_92 a Post x1 x3 M := by
  unfold P_X8_hearData_92 at H ⊢
  obtain ⟨a20, e_a20, H⟩ := H
  refine z_nn_of e_a20 ?_
  refine And.intro (fun c1 => ?_) (fun c1 => ?_)
  · replace H := H.1 c1
    refine And.intro (fun c2 => ?_) (fun c2 => ?_)
    · replace H := H.1 c2
      refine And.intro (fun c3 => ?_) (fun c3 => ?_)
      · replace H := H.1 c3
        exact mS_X8_hearData_121 hR H rM K
      · replace H := H.2 c3
        exact mS_X8_hearData_116 hR H rM K
    · replace H := H.2 c2
      exact mS_X8_hearData_116 hR H rM K
  · replace H := H.2 c1
    exact mS_X8_hearData_116 hR H rM K
set_option maxRecDepth 100000 in
set_option maxHeartbeats 4000000 in
theorem mS_X8_hearData_19 {R : z_Mem → Prop} (hR : y_mR R) {Q Post : z_Mem → Prop} {a : Nat} {x1 : Option Nat} {t0 : Int32} {M : z_Mem} (H : P_X8_hearData_19 a Q x1 t0 M) (rM : R M) (K : ∀ M1, Q M1 → R M1 → Post M1) : P_X8_hearData_19 a Post x1 t0 M := by
  unfold P_X8_hearData_19 at H ⊢
  obtain ⟨a27, e_a27, H⟩ := H
  refine z_nn_of e_a27 ?_
  intro x_29 e_x_29
  replace H := H x_29 e_x_29
  refine And.intro (fun c1 => ?_) (fun c1 => ?_)
  · replace H := H.1 c1
    refine mS_X8_takesKey hR H rM (fun x_32 M_32 H rM_32 => ?_)
    refine And.intro (fun c2 => ?_) (fun c2 => ?_)
    · replace H := H.1 c2
      exact K _ H rM_32
    · replace H := H.2 c2
      refine And.intro (fun c3 => ?_) (fun c3 => ?_)
      · replace H := H.1 c3
        exact K _ H rM_32
      · replace H := H.2 c3
        refine And.intro (fun c4 => ?_) (fun c4 => ?_)
        · replace H := H.1 c4
          intro M_36 e_M_36
          replace H := H M_36 e_M_36
          have rM_36 : R M_36 := by rw [e_M_36]; exact (hR.sfi (by decide) rM_32)
          refine And.intro (fun c5 => ?_) (fun c5 => ?_)
          · replace H := H.1 c5
            exact mS_X8_hearData_92 hR H rM_36 K
          · replace H := H.2 c5
            refine And.intro (fun c6 => ?_) (fun c6 => ?_)
            · replace H := H.1 c6
              exact mS_X8_hearData_92 hR H rM_36 K
            · replace H := H.2 c6
              obtain ⟨a43, e_a43, H⟩ := H
              refine z_nn_of e_a43 ?_
              refine And.intro H.1 ?_
              replace H := H.2
              obtain ⟨a48, e_a48, H⟩ := H
              refine z_nn_of e_a48 ?_
              refine mS_X9_arrive hR H rM_36 (fun M_47 H rM_47 => ?_)
              exact mS_X8_hearData_92 hR H rM_47 K
        · replace H := H.2 c4
          exact K _ H rM_32
  · replace H := H.2 c1
    exact K _ H rM
set_option maxRecDepth 100000 in
set_option maxHeartbeats 4000000 in
theorem mS_X8_hearData_18 {R : z_Mem → Prop} (hR : y_mR R) {Q Post : z_Mem → Prop} {a : Nat} {x1 : Option Nat} {M : z_Mem} (H : P_X8_hearData_18 a Q x1 M) (rM : R M) (K : ∀ M1, Q M1 → R M1 → Post M1) : P_X8_hearData_18 a Post x1 M := by
  unfold P_X8_hearData_18 at H ⊢
  exact mS_X8_hearData_19 hR H rM K
set_option maxRecDepth 100000 in
set_option maxHeartbeats 4000000 in
theorem mS_X8_hearData {R : z_Mem → Prop} (hR : y_mR R) {Q Post : z_Mem → Prop} {a : Nat} {p1 : Option Nat} {M : z_Mem} (H : P_X8_hearData a p1 M Q) (rM : R M) (K : ∀ M1, Q M1 → R M1 → Post M1) : P_X8_hearData a p1 M Post := by
  unfold P_X8_hearData at H ⊢
  obtain ⟨a49, e_a49, H⟩ := H
  refine z_nn_of e_a49 ?_
  refine And.intro (fun c1 => ?_) (fun c1 => ?_)
  · replace H := H.1 c1
    exact mS_X8_hearData_18 hR H rM K
  · replace H := H.2 c1
    refine And.intro (fun c2 => ?_) (fun c2 => ?_)
    · replace H := H.1 c2
      exact mS_X8_hearData_19 hR H rM K
    · replace H := H.2 c2
      exact mS_X8_hearData_18 hR H rM K
set_option maxRecDepth 100000 in
set_option maxHeartbeats 4000000 in
theorem mS_X8_hearWhenEstablished {R : z_Mem → Prop} (hR : y_mR R) {Q Post : z_Mem → Prop} {a : Nat} {p1 : Option Nat} {M : z_Mem} (H : P_X8_hearWhenEstablished a p1 M Q) (rM : R M) (K : ∀ M1, Q M1 → R M1 → Post M1) : P_X8_hearWhenEstablished a p1 M Post := by
  unfold P_X8_hearWhenEstablished at H ⊢
  obtain ⟨a1, e_a1, H⟩ := H
  refine z_nn_of e_a1 ?_
  refine And.intro (fun c1 => ?_) (fun c1 => ?_)
  · replace H := H.1 c1
    refine And.intro H.1 ?_
    replace H := H.2
    intro M_16 e_M_16
    replace H := H M_16 e_M_16
    have rM_16 : R M_16 := by rw [e_M_16]; exact (hR.new rM)
    refine mS_X4_init hR H rM_16 (fun M_17 H rM_17 => ?_)
    obtain ⟨a19, e_a19, H⟩ := H
    refine z_nn_of e_a19 ?_
    refine mS_X5_putToClient hR H rM_17 (fun M_18 H rM_18 => ?_)
    exact K _ H rM_18
  · replace H := H.2 c1
    refine And.intro (fun c2 => ?_) (fun c2 => ?_)
    · replace H := H.1 c2
      intro M_12 e_M_12
      replace H := H M_12 e_M_12
      have rM_12 : R M_12 := by rw [e_M_12]; exact (hR.sfi (by decide) rM)
      exact K _ H rM_12
    · replace H := H.2 c2
      refine And.intro (fun c3 => ?_) (fun a7 c3 => ?_)
      · replace H := H.1 c3
        exact K _ H rM
      · replace H := H.2 a7 c3
        intro M_9 e_M_9
        replace H := H M_9 e_M_9
        have rM_9 : R M_9 := by rw [e_M_9]; exact (hR.sfi (by decide) rM)
        refine mS_X8_hearData hR H rM_9 (fun M_11 H rM_11 => ?_)
        exact K _ H rM_11
set_option maxRecDepth 100000 in
set_option maxHeartbeats 4000000 in
theorem mS_X8_hear_15 {R : z_Mem → Prop} (hR : y_mR R) {Q Post : z_Mem → Prop} {a : Nat} {x1 : Option Nat} {M : z_Mem} (H : P_X8_hear_15 a Q x1 M) (rM : R M) (K : ∀ M1, Q M1 → R M1 → Post M1) : P_X8_hear_15 a Post x1 M := by
  unfold P_X8_hear_15 at H ⊢
  refine And.intro (fun c1 => ?_) (fun c1 => ?_)
  · replace H := H.1 c1
    exact K _ H rM
  · replace H := H.2 c1
    obtain ⟨a3, e_a3, H⟩ := H
    refine z_nn_of e_a3 ?_
    refine And.intro (fun c2 => ?_) (fun c2 => ?_)
    · replace H := H.1 c2
      refine mS_X8_hearHello hR H rM (fun M_18 H rM_18 => ?_)
      exact K _ H rM_18
    · replace H := H.2 c2
      refine And.intro (fun c3 => ?_) (fun c3 => ?_)
      · replace H := H.1 c3
        refine And.intro H.1 ?_
        replace H := H.2
        intro M_14 e_M_14
        replace H := H M_14 e_M_14
        have rM_14 : R M_14 := by rw [e_M_14]; exact (hR.new rM)
        refine mS_X4_init hR H rM_14 (fun M_15 H rM_15 => ?_)
        obtain ⟨a17, e_a17, H⟩ := H
        refine z_nn_of e_a17 ?_
        refine mS_X5_putToClient hR H rM_15 (fun M_16 H rM_16 => ?_)
        exact K _ H rM_16
      · replace H := H.2 c3
        refine And.intro (fun c4 => ?_) (fun c4 => ?_)
        · replace H := H.1 c4
          refine mS_X8_hearWhenEstablished hR H rM (fun M_10 H rM_10 => ?_)
          exact K _ H rM_10
        · replace H := H.2 c4
          exact K _ H rM
set_option maxRecDepth 100000 in
set_option maxHeartbeats 4000000 in
theorem mS_X8_hear {R : z_Mem → Prop} (hR : y_mR R) {Q Post : z_Mem → Prop} {a : Nat} {p1 : Option Nat} {M : z_Mem} (H : P_X8_hear a p1 M Q) (rM : R M) (K : ∀ M1, Q M1 → R M1 → Post M1) : P_X8_hear a p1 M Post := by
  unfold P_X8_hear at H ⊢
  obtain ⟨a19, e_a19, H⟩ := H
  refine z_nn_of e_a19 ?_
  refine And.intro (fun c1 => ?_) (fun a21 c1 => ?_)
  · replace H := H.1 c1
    exact mS_X8_hear_15 hR H rM K
  · replace H := H.2 a21 c1
    obtain ⟨a23, e_a23, H⟩ := H
    refine z_nn_of e_a23 ?_
    intro M_24 e_M_24
    replace H := H M_24 e_M_24
    have rM_24 : R M_24 := by rw [e_M_24]; exact (hR.sfi (by decide) rM)
    exact mS_X8_hear_15 hR H rM_24 K
set_option maxRecDepth 100000 in
set_option maxHeartbeats 4000000 in
theorem mS_X8_hearAll_11 {R : z_Mem → Prop} (hR : y_mR R) {Q Post : z_Mem → Prop} {a : Nat} : ∀ (m : Nat) {x1 : Int32} {M : z_Mem} (H : P_X8_hearAll_11 a Q m x1 M) (rM : R M) (K : ∀ M1, Q M1 → R M1 → Post M1), P_X8_hearAll_11 a Post m x1 M := by
  intro m
  induction m with
  | zero => intros; rename_i H _ _; exact False.elim H
  | succ m ih =>
    intro x1 M H rM K
    unfold P_X8_hearAll_11 at H ⊢
    refine And.intro (fun c1 => ?_) (fun c1 => ?_)
    · replace H := H.1 c1
      exact K _ H rM
    · replace H := H.2 c1
      obtain ⟨a3, e_a3, H⟩ := H
      refine z_nn_of e_a3 ?_
      obtain ⟨a6, e_a6, H⟩ := H
      refine z_nn_of e_a6 ?_
      obtain ⟨a9, e_a9, H⟩ := H
      refine z_nn_of e_a9 ?_
      refine mS_X10_takeDue hR H rM (fun x_8 M_8 H rM_8 => ?_)
      refine And.intro (fun c2 => ?_) (fun a10 c2 => ?_)
      · replace H := H.1 c2
        exact K _ H rM_8
      · replace H := H.2 a10 c2
        refine mS_X8_hear hR H rM_8 (fun M_11 H rM_11 => ?_)
        intro x_12 e_x_12
        replace H := H x_12 e_x_12
        exact ih H rM_11 K
set_option maxRecDepth 100000 in
set_option maxHeartbeats 4000000 in
theorem mS_X8_hearAll {R : z_Mem → Prop} (hR : y_mR R) {Q Post : z_Mem → Prop} {a : Nat} {M : z_Mem} (H : P_X8_hearAll a M Q) (rM : R M) (K : ∀ M1, Q M1 → R M1 → Post M1) : P_X8_hearAll a M Post := by
  unfold P_X8_hearAll at H ⊢
  obtain ⟨a14, e_a14, H⟩ := H
  refine z_nn_of e_a14 ?_
  obtain ⟨a16, e_a16, H⟩ := H
  refine z_nn_of e_a16 ?_
  intro x_18 e_x_18
  replace H := H x_18 e_x_18
  obtain ⟨m, H⟩ := H
  refine ⟨m, ?_⟩
  exact mS_X8_hearAll_11 hR m H rM K
set_option maxRecDepth 100000 in
set_option maxHeartbeats 4000000 in
theorem mS_X8_acknowledgeInTime {R : z_Mem → Prop} (hR : y_mR R) {Q Post : z_Mem → Prop} {a : Nat} {M : z_Mem} (H : P_X8_acknowledgeInTime a M Q) (rM : R M) (K : ∀ M1, Q M1 → R M1 → Post M1) : P_X8_acknowledgeInTime a M Post := by
  unfold P_X8_acknowledgeInTime at H ⊢
  obtain ⟨a2, e_a2, H⟩ := H
  refine z_nn_of e_a2 ?_
  refine And.intro (fun c1 => ?_) (fun c1 => ?_)
  · replace H := H.1 c1
    refine mS_X8_acknowledge hR H rM (fun M_6 H rM_6 => ?_)
    exact K _ H rM_6
  · replace H := H.2 c1
    obtain ⟨a8, e_a8, H⟩ := H
    refine z_nn_of e_a8 ?_
    refine And.intro (fun c2 => ?_) (fun c2 => ?_)
    · replace H := H.1 c2
      refine mS_X8_acknowledge hR H rM (fun M_11 H rM_11 => ?_)
      exact K _ H rM_11
    · replace H := H.2 c2
      exact K _ H rM
set_option maxRecDepth 100000 in
set_option maxHeartbeats 4000000 in
theorem mS_X11_setCookies {R : z_Mem → Prop} (hR : y_mR R) {Q Post : Int32 → z_Mem → Prop} {a : Nat} {p1 : Int32} {M : z_Mem} (H : P_X11_setCookies a p1 M Q) (rM : R M) (K : ∀ x M1, Q x M1 → R M1 → Post x M1) : P_X11_setCookies a p1 M Post := by
  unfold P_X11_setCookies at H ⊢
  obtain ⟨a2, e_a2, H⟩ := H
  refine z_nn_of e_a2 ?_
  intro x_4 e_x_4
  replace H := H x_4 e_x_4
  obtain ⟨a6, e_a6, H⟩ := H
  refine z_nn_of e_a6 ?_
  intro M_7 e_M_7
  replace H := H M_7 e_M_7
  have rM_7 : R M_7 := by rw [e_M_7]; exact (hR.sfi (by decide) rM)
  exact K _ _ H rM_7
set_option maxRecDepth 100000 in
set_option maxHeartbeats 4000000 in
theorem mS_X11_loseState {R : z_Mem → Prop} (hR : y_mR R) {Q Post : z_Mem → Prop} {a : Nat} {M : z_Mem} (H : P_X11_loseState a M Q) (rM : R M) (K : ∀ M1, Q M1 → R M1 → Post M1) : P_X11_loseState a M Post := by
  unfold P_X11_loseState at H ⊢
  obtain ⟨a3, e_a3, H⟩ := H
  refine z_nn_of e_a3 ?_
  refine mS_X8_forget hR H rM (fun M_2 H rM_2 => ?_)
  exact K _ H rM_2
set_option maxRecDepth 100000 in
set_option maxHeartbeats 4000000 in
theorem mS_X11_now {R : z_Mem → Prop} (hR : y_mR R) {Q Post : Int32 → z_Mem → Prop} {a : Nat} {M : z_Mem} (H : P_X11_now a M Q) (rM : R M) (K : ∀ x M1, Q x M1 → R M1 → Post x M1) : P_X11_now a M Post := by
  unfold P_X11_now at H ⊢
  obtain ⟨a2, e_a2, H⟩ := H
  refine z_nn_of e_a2 ?_
  exact K _ _ H rM
set_option maxRecDepth 100000 in
set_option maxHeartbeats 4000000 in
theorem mS_X11_asNumber {R : z_Mem → Prop} (hR : y_mR R) {Q Post : Int32 → z_Mem → Prop} {p1 : Int32} {M : z_Mem} (H : P_X11_asNumber p1 M Q) (rM : R M) (K : ∀ x M1, Q x M1 → R M1 → Post x M1) : P_X11_asNumber p1 M Post := by
  unfold P_X11_asNumber at H ⊢
  refine And.intro (fun c1 => ?_) (fun c1 => ?_)
  · replace H := H.1 c1
    exact K _ _ H rM
  · replace H := H.2 c1
    exact K _ _ H rM
set_option maxRecDepth 100000 in
set_option maxHeartbeats 4000000 in
theorem mS_X11_credit {R : z_Mem → Prop} (hR : y_mR R) {Q Post : Int32 → z_Mem → Prop} {a : Nat} {M : z_Mem} (H : P_X11_credit a M Q) (rM : R M) (K : ∀ x M1, Q x M1 → R M1 → Post x M1) : P_X11_credit a M Post := by
  unfold P_X11_credit at H ⊢
  obtain ⟨a2, e_a2, H⟩ := H
  refine z_nn_of e_a2 ?_
  exact K _ _ H rM
set_option maxRecDepth 100000 in
set_option maxHeartbeats 4000000 in
theorem mS_X11_packets {R : z_Mem → Prop} (hR : y_mR R) {Q Post : Int32 → z_Mem → Prop} {a : Nat} {M : z_Mem} (H : P_X11_packets a M Q) (rM : R M) (K : ∀ x M1, Q x M1 → R M1 → Post x M1) : P_X11_packets a M Post := by
  unfold P_X11_packets at H ⊢
  obtain ⟨a2, e_a2, H⟩ := H
  refine z_nn_of e_a2 ?_
  exact K _ _ H rM
