/-! ===== THE CLASS: what the time brings ===== -/
theorem i_mod4 {a b : Int32} (h0 : 0 ≤ a.toInt) (h1 : a.toInt < 4) (h2 : 0 ≤ b.toInt) (h3 : b.toInt ≤ 4) : 0 ≤ ((a + b) - (a + b) / 4 * 4).toInt ∧ ((a + b) - (a + b) / 4 * 4).toInt < 4 := by
  have e : (a + b).toInt = a.toInt + b.toInt := by rw [Int32.toInt_add, Int.bmod_eq_of_le (by omega) (by omega)]
  have ed : ((a + b) / 4).toInt = (a.toInt + b.toInt) / 4 := by
    rw [Int32.toInt_div, e, show (4 : Int32).toInt = 4 from rfl, Int.tdiv_eq_ediv_of_nonneg (by omega), Int.bmod_eq_of_le (by omega) (by omega)]
  have em : ((a + b) / 4 * 4).toInt = (a.toInt + b.toInt) / 4 * 4 := by
    rw [Int32.toInt_mul, ed, show (4 : Int32).toInt = 4 from rfl, Int.bmod_eq_of_le (by omega) (by omega)]
  rw [Int32.toInt_sub, e, em, Int.bmod_eq_of_le (by omega) (by omega)]
  omega
section YV
variable {n c s : Nat} {M0 M M1 : z_Mem}
theorem r_state0 {v : Int32} (I : y_CI n c s M0 M) (e : M1 = z_sfi M 135 (n + 31) v) : y_CI n c s M1 M1 := by
  subst e
  obtain ⟨S, L, R, A, F, G⟩ := I
  exact ⟨S, L, R, A, ⟨fun _ _ => rfl, fun _ _ _ _ => rfl, Iff.rfl⟩, fun _ _ _ _ => rfl, fun _ _ _ => rfl, Nat.le_refl _, fun _ h => h⟩
theorem t_probe23 {rt : Nat} {t0 : Option Nat} {Post : z_Mem → Prop} (I : y_CI n c s M0 M) (k : ∀ M1, y_CI n c s M0 M1 → Post M1) : P_X1_probeInTime_23 (n + 31) Post (some rt) t0 M := by
  refine And.intro (fun _ => k _ I) (fun a1 _ => And.intro (fun _ => k _ I) (fun _ => z_nn_of rfl ?_))
  intro M6 e6
  have I6 := r_sfi I e6 (by decide +kernel)
  intro M8 e8
  have I8 := r_sfi I6 e8 (by decide +kernel)
  exact t_X1_sendPacket I8 k
theorem t_X1_probeInTime {rt : Nat} {Post : z_Mem → Prop} (I : y_CI n c s M0 M) (k : ∀ M1, y_CI n c s M0 M1 → Post M1) : P_X1_probeInTime (n + 31) (some rt) M Post := by
  refine z_nn_of (s_128_31 I.1) (z_nn_of rfl (t_X7_isProbeDue I (fun x16 => And.intro (fun _ => t_probe23 I k) (fun _ => ?_))))
  exact t_X1_lowestInFlight I (fun r M1 I1 => t_probe23 I1 k)
theorem t_sl2 {rt : Nat} {Post : Int32 → z_Mem → Prop} (k : ∀ r M1, y_CI n c s M0 M1 → Post r M1) : ∀ (m : Nat) (x2 : Int32) (M : z_Mem), (4 - x2.toInt).toNat < m → 0 ≤ x2.toInt → y_CI n c s M0 M → P_X1_sendLost_2 (n + 31) Post m (some rt) x2 M := by
  have T4 : (4 : Int32).toInt = 4 := rfl
  intro m
  induction m with
  | zero => intro x2 M h; omega
  | succ m ih =>
    intro x2 M hm h0 I
    refine And.intro (fun _ => k _ _ I) (fun c1 => z_nn_of (s_129_31 I.1) ?_)
    rw [Int32.le_iff_toInt_le] at c1
    have hv : vp_in x2 (z_ln M (n + 11)) := vp_of (L := 4) (s_l11 I.1) h0 (by omega)
    obtain ⟨st, hs, ha⟩ := t_strAt (x := x2) I.1 h0 (by omega)
    refine And.intro hv (z_nn_of hs (And.intro (fun _ => ?_) (fun _ => z_nn_of (s_129_31 I.1) (And.intro hv (z_nn_of hs (t_X9_lowestLost I ha (fun x12 => z_nn_of (s_129_31 I.1) (And.intro hv (z_nn_of hs (t_X9_lostInARow I ha (fun x17 => t_X1_sendPacket I (fun M19 I19 => k _ _ I19))))))))))))
    intro y ey
    have t1 := i_add1 (x := x2) (by omega) (by omega)
    exact ih _ _ (by rw [ey, t1]; omega) (by rw [ey, t1]; omega) I
theorem t_X1_sendLost {rt : Nat} {Post : Int32 → z_Mem → Prop} (I : y_CI n c s M0 M) (k : ∀ r M1, y_CI n c s M0 M1 → Post r M1) : P_X1_sendLost (n + 31) (some rt) M Post :=
  ⟨5, t_sl2 k 5 0 M (by decide) (by decide) I⟩
theorem t_sn32 {rt : Nat} {x2 : Int32} {Post : Int32 → z_Mem → Prop} (k : ∀ r M1, y_CI n c s M0 M1 → Post r M1) : ∀ (m : Nat) (x3 : Int32) (M : z_Mem), (5 - x3.toInt).toNat < m → 0 ≤ x3.toInt → y_CI n c s M0 M → P_X1_sendNew_32 (n + 31) Post m (some rt) x2 x3 M := by
  have T4 : (4 : Int32).toInt = 4 := rfl
  intro m
  induction m with
  | zero => intro x3 M h; omega
  | succ m ih =>
    intro x3 M hm h0 I
    refine And.intro (fun _ => k _ _ I) (fun c1 => ?_)
    rw [Int32.lt_iff_toInt_lt] at c1
    intro y ey
    obtain ⟨l0, l1⟩ := y_lst I
    obtain ⟨g0, g1⟩ : 0 ≤ y.toInt ∧ y.toInt < 4 := by rw [ey]; exact i_mod4 l0 l1 h0 (by omega)
    obtain ⟨st, hs, ha⟩ := t_strAt (x := y) I.1 g0 g1
    refine z_nn_of (s_129_31 I.1) (And.intro (vp_of (L := 4) (s_l11 I.1) g0 (by omega)) (z_nn_of hs (t_X9_canSendAnew I (fun x7 => And.intro (fun _ => ?_) (fun _ => ?_)))))
    · intro z ez
      have t1 := i_add1 (x := x3) (by omega) (by omega)
      exact ih _ _ (by rw [ez, t1]; omega) (by rw [ez, t1]; omega) I
    · intro M11 e11
      have I11 := r_lst I e11 g0 g1
      obtain ⟨st1, hs1, -⟩ := t_strAt (x := y) I11.1 g0 g1
      exact z_nn_of (s_129_31 I11.1) (And.intro (vp_of (L := 4) (s_l11 I11.1) g0 (by omega)) (z_nn_of hs1 (t_X1_sendPacket I11 (fun M17 I17 => k _ _ I17))))
theorem t_sn7 {rt : Nat} {Post : Int32 → z_Mem → Prop} (k : ∀ r M1, y_CI n c s M0 M1 → Post r M1) : ∀ (m : Nat) (x2 x3 : Int32) (M : z_Mem), (4 - x3.toInt).toNat < m → 0 ≤ x3.toInt → y_CI n c s M0 M → P_X1_sendNew_7 (n + 31) Post m (some rt) x2 x3 M := by
  have T4 : (4 : Int32).toInt = 4 := rfl
  intro m
  induction m with
  | zero => intro x2 x3 M h; omega
  | succ m ih =>
    intro x2 x3 M hm h0 I
    refine And.intro (fun _ => ⟨5, t_sn32 k 5 1 M (by decide) (by decide) I⟩) (fun c1 => z_nn_of (s_129_31 I.1) ?_)
    rw [Int32.le_iff_toInt_le] at c1
    obtain ⟨st, hs, -⟩ := t_strAt (x := x3) I.1 h0 (by omega)
    refine And.intro (vp_of (L := 4) (s_l11 I.1) h0 (by omega)) (z_nn_of hs ?_)
    intro y _ z ez
    have t1 := i_add1 (x := x3) (by omega) (by omega)
    exact ih _ _ _ (by rw [ez, t1]; omega) (by rw [ez, t1]; omega) I
theorem t_X1_sendNew {rt : Nat} {Post : Int32 → z_Mem → Prop} (I : y_CI n c s M0 M) (k : ∀ r M1, y_CI n c s M0 M1 → Post r M1) : P_X1_sendNew (n + 31) (some rt) M Post :=
  fun x _ => ⟨5, t_sn7 k 5 x 0 M (by decide) (by decide) I⟩
def y_rt (n : Nat) (r : Option Nat) : Prop := r = none ∨ r = some (n + 32) ∨ r = some (n + 35)
theorem t_X1_routeToSend {Post : Option Nat → z_Mem → Prop} (I : y_CI n c s M0 M) (k : ∀ r, y_rt n r → Post r M) : P_X1_routeToSend (n + 31) M Post := by
  have k0 : Post (z_fr M 130 (n + 31)) M := by rw [s_130_31 I.1]; exact k _ (Or.inr (Or.inl rfl))
  have k1 : Post (z_fr M 131 (n + 31)) M := by rw [s_131_31 I.1]; exact k _ (Or.inr (Or.inr rfl))
  have f84 : ∀ x1 x2, P_X1_routeToSend_84 (n + 31) Post x1 x2 M := fun x1 x2 => And.intro (fun _ => And.intro (fun _ => k _ (Or.inl rfl)) (fun _ => k1)) (fun _ => k0)
  have f46 : ∀ x1 t0, P_X1_routeToSend_46 (n + 31) Post x1 t0 M := fun x1 t0 => And.intro (fun _ => f84 _ _) (fun _ => And.intro (fun _ => f84 _ _) (fun _ => z_nn_of (s_131_31 I.1) (z_nn_of (s_130_31 I.1) (And.intro (fun _ => k0) (fun _ => k1)))))
  have f23 : ∀ t0, P_X1_routeToSend_23 (n + 31) Post t0 M := fun t0 => And.intro (fun _ => f46 _ _) (fun _ => z_nn_of (s_131_31 I.1) (t_X7_canSend I (Or.inr rfl) (fun x19 => And.intro (fun _ => f46 _ _) (fun _ => f46 _ _))))
  exact And.intro (fun _ => f23 _) (fun _ => z_nn_of (s_130_31 I.1) (t_X7_canSend I (Or.inl rfl) (fun x25 => And.intro (fun _ => f23 _) (fun _ => f23 _))))
theorem t_sd46 {Post : z_Mem → Prop} (k : ∀ M1, y_CI n c s M0 M1 → Post M1) : ∀ (m : Nat) (x1 : Int32) (M : z_Mem), (400 - x1.toInt).toNat < m → y_CI n c s M0 M → P_X1_sendData_46 (n + 31) Post m x1 M := by
  have T400 : (400 : Int32).toInt = 400 := rfl
  intro m
  induction m with
  | zero => intro x1 M h; omega
  | succ m ih =>
    intro x1 M hm I
    refine And.intro (fun _ => k _ I) (fun c1 => t_X1_routeToSend I (fun r hr => And.intro (fun _ => k _ I) (fun a7 h7 => ?_)))
    rw [Int32.le_iff_toInt_le, T400] at c1
    subst h7
    have go : ∀ M1, y_CI n c s M0 M1 → P_X1_sendData_81 (n + 31) Post (fun q0 qM => P_X1_sendData_46 (n + 31) Post m q0 qM) x1 (some a7) M1 := fun M1 I1 => z_nn_of rfl (by
      intro M3 e3 y ey
      have t1 := i_add1g (x := x1) (by omega)
      exact ih _ _ (by rw [ey, t1]; omega) (r_sfi I1 e3 (by decide +kernel)))
    exact t_X1_sendLost I (fun x8 M8 I8 => And.intro (fun _ => t_X1_sendNew I8 (fun x10 M10 I10 => And.intro (fun _ => k _ I10) (fun _ => go _ I10))) (fun _ => go _ I8))
theorem t_X1_sendData {Post : z_Mem → Prop} (I : y_CI n c s M0 M) (k : ∀ M1, y_CI n c s M0 M1 → Post M1) : P_X1_sendData (n + 31) M Post := by
  refine z_nn_of (s_130_31 I.1) ?_
  intro M17 e17
  have I17 := r_sfi I e17 (by decide +kernel)
  refine z_nn_of (s_131_31 I17.1) ?_
  intro M20 e20
  have I20 := r_sfi I17 e20 (by decide +kernel)
  have f41 : P_X1_sendData_41 (n + 31) Post M20 := fun x _ => ⟨_, t_sd46 k _ x M20 (Nat.lt_succ_self _) I20⟩
  exact And.intro (fun _ => f41) (fun _ => And.intro (fun _ => And.intro (fun _ => k _ I20) (fun _ => f41)) (fun _ => k _ I20))
theorem t_la94 {Post : z_Mem → Prop} (I : y_CI n c s M0 M) (k : ∀ M1, y_CI n c s M0 M1 → Post M1) : P_X1_lookAfter_94 (n + 31) Post M := by
  refine And.intro (fun c1 => z_nn_of (s_128_31 I.1) (And.intro (fun _ => k _ I) (fun _ => ?_))) (fun _ => k _ I)
  intro M8 e8
  exact k _ (r_state I e8 (by rw [c1]; decide) (by decide))
theorem t_la50 {Post : z_Mem → Prop} (I : y_CI n (c + 1) (s + 8) M0 M) (k : ∀ M1, y_CI n c s M0 M1 → Post M1) : P_X1_lookAfter_50 (n + 31) Post M := by
  have f94 := t_la94 (r_w (c := c) (s := s) I (by omega) (by omega)) k
  refine And.intro (fun _ => z_nn_of (s_128_31 I.1) (And.intro (fun _ => f94) (fun _ => ?_))) (fun _ => f94)
  intro M18 e18
  exact t_X1_sayHello (r_sfi I e18 (by decide +kernel)) rfl k
theorem t_X1_lookAfter {Post : z_Mem → Prop} (I : y_CI n (c + 1) (s + 8) M0 M) (k : ∀ M1, y_CI n c s M0 M1 → Post M1) : P_X1_lookAfter (n + 31) M Post := by
  have f16 : P_X1_lookAfter_16 (n + 31) Post M := by
    unfold P_X1_lookAfter_16
    rw [s_130_31 I.1]
    refine t_X1_findLosses I (Or.inl rfl) (fun M21 I21 => ?_)
    rw [s_131_31 I21.1]
    refine t_X1_findLosses I21 (Or.inr rfl) (fun M23 I23 => ?_)
    rw [s_130_31 I23.1]
    refine t_X1_probeInTime I23 (fun M25 I25 => ?_)
    rw [s_131_31 I25.1]
    exact t_X1_probeInTime I25 (fun M27 I27 => t_la50 I27 k)
  exact And.intro (fun _ => f16) (fun _ => And.intro (fun _ => f16) (fun _ => t_la50 I k))
theorem t_X5_letLeave {Post : z_Mem → Prop} (I : y_CI n (c + 162) (s + 720) M0 M) (k : ∀ M1, y_CI n c s M0 M1 → Post M1) : P_X5_letLeave (n + 1) M Post := by
  unfold P_X5_letLeave
  rw [s_640_1 I.1]
  refine t_X5_letLeaveLane (c := c + 81) (s := s + 360) I (Or.inl rfl) (fun M2 I2 => ?_)
  rw [s_641_1 I2.1]
  exact t_X5_letLeaveLane I2 (Or.inr rfl) (fun M4 I4 => k _ I4)
/-- one tick, without its first step (now is 1 more) -/
theorem t_pass {Post : z_Mem → Prop} (I : y_CI n (c + 168) (s + 754) M0 M) (k : ∀ M1, y_CI n c s M0 M1 → Post M1) : z_nn (z_fr M 1410 n) fun a11 => (P_X8_hearAll a11 M fun M_10 => (z_nn (z_fr M_10 1411 n) fun a14 => (P_X1_hearAll a14 M_10 fun M_13 => (z_nn (z_fr M_13 1410 n) fun a17 => (P_X8_acknowledgeInTime a17 M_13 fun M_16 => (z_nn (z_fr M_16 1411 n) fun a20 => (P_X1_lookAfter a20 M_16 fun M_19 => (z_nn (z_fr M_19 1411 n) fun a23 => (P_X1_sendData a23 M_19 fun M_22 => (z_nn (z_fr M_22 1408 n) fun a26 => (P_X5_letLeave a26 M_22 Post))))))))))) := by
  refine z_nn_of (s_1410_0 I.1) (t_X8_hearAll I (fun M10 I10 => z_nn_of (s_1411_0 I10.1) (t_X1_hearAll I10 (fun M13 I13 => z_nn_of (s_1410_0 I13.1) (t_X8_acknowledgeInTime (c := c + 163) (s := s + 728) I13 rfl (fun M16 I16 => z_nn_of (s_1411_0 I16.1) (t_X1_lookAfter (c := c + 162) (s := s + 720) I16 (fun M19 I19 => z_nn_of (s_1411_0 I19.1) (t_X1_sendData I19 (fun M22 I22 => z_nn_of (s_1408_0 I22.1) (t_X5_letLeave I22 k)))))))))))
theorem t_X1_beginHello {p1 : Int32} {Post : z_Mem → Prop} (I : y_CI n (c + 1) (s + 8) M0 M) (k : ∀ M1, y_CI n c s (z_sfi M 135 (n + 31) 1) M1 → Post M1) : P_X1_beginHello (n + 31) p1 M Post := by
  intro M1 e1
  have I1 := r_state0 I e1
  intro M2 e2
  refine t_X1_sayHello (r_sfi I1 e2 (by decide +kernel)) rfl (fun M3 I3 => k _ ?_)
  rw [e1] at I3
  exact I3
theorem t_bc {b : Nat} {p1 kd : Int32} {Post : z_Mem → Prop} (I : y_CI n (c + 1) (s + 8) M0 M) (hb : z_fr M 640 b = z_fr M 640 b) (k : ∀ M1, y_CI n c s M0 M1 → Post M1) : z_room M 8 ∧ (∀ M_15 : z_Mem, M_15 = z_new M 5 8 → (P_X4_init (z_sz M) kd M_15 fun M_16 => (P_X5_putToServer (n + 1) p1 (some (z_sz M)) M_16 fun M_17 => (Post M_17)))) := by
  refine And.intro (r_room (c := c) (s := s) (w := 8) I) ?_
  intro M15 e15
  have I15 := r_new (c := c) (s := s) (w := 8) I e15
  intro M_1 e_1
  have J1 := r_sfi I15 e_1 (by decide +kernel)
  intro M_2 e_2
  have J2 := r_sfi J1 e_2 (by decide +kernel)
  exact t_X5_putToServer J2 rfl ⟨_, rfl⟩ (fun M17 I17 => k _ I17)
theorem t_X1_beginClosing {Post : z_Mem → Prop} (I : y_CI n (c + 1) (s + 8) M0 M) (h0 : ¬ z_fi M 135 (n + 31) = 0) (k : ∀ M1, y_CI n c s M0 M1 → Post M1) : P_X1_beginClosing (n + 31) M Post := by
  intro M1 e1
  have I1 := r_state I e1 h0 (by decide)
  refine z_nn_of (s_128_31 I1.1) ?_
  intro M5 e5
  have I5 := r_sfi I1 e5 (by decide +kernel)
  have f : ∀ p1 : Int32, z_room M5 8 ∧ (∀ M_15 : z_Mem, M_15 = z_new M5 5 8 → (P_X4_init (z_sz M5) 7 M_15 fun M_16 => (z_nn (z_fr M5 128 (n + 31)) fun a18 => (P_X5_putToServer a18 p1 (some (z_sz M5)) M_16 fun M_17 => (Post M_17))))) := fun p1 => by
    obtain ⟨q1, q2⟩ := t_bc (b := n) (p1 := p1) (kd := 7) I5 rfl k
    exact And.intro q1 (fun M15 e15 M_1 e_1 M_2 e_2 => z_nn_of (s_128_31 I5.1) (q2 M15 e15 M_1 e_1 M_2 e_2))
  exact And.intro (fun _ => f 1) (fun _ => f 0)
theorem t_cck4 {Post : Int32 → z_Mem → Prop} (I : y_CI n c s M0 M) (k : ∀ r, Post r M) : ∀ (m : Nat) (x1 x2 : Int32), (400 - x2.toInt).toNat < m → P_X1_canChangeKey_4 (n + 31) Post m x1 x2 M := by
  have ls := y_sent I
  intro m
  induction m with
  | zero => intro x1 x2 h; omega
  | succ m ih =>
    intro x1 x2 hm
    refine And.intro (fun _ => And.intro (fun _ => And.intro (fun _ => k _) (fun _ => k _)) (fun _ => k _)) (fun c1 => t_X1_packetAt I rfl (fun x7 => ?_))
    rw [Int32.le_iff_toInt_le] at c1
    have t1 := i_add1g (x := x2) (by omega)
    have go : ∀ x1, P_X1_canChangeKey_42 (n + 31) Post (fun q0 q1 qM => P_X1_canChangeKey_4 (n + 31) Post m q0 q1 qM) x1 x2 M := fun x1 y ey => ih _ _ (by rw [ey, t1]; omega)
    exact And.intro (fun _ => go _) (fun a8 h8 => And.intro (fun _ => t_X1_isAcknowledged I ⟨_, h8⟩ (fun x12 => And.intro (fun _ => go _) (fun _ => go _))) (fun _ => go _))
theorem t_X1_canChangeKey {Post : Int32 → z_Mem → Prop} (I : y_CI n c s M0 M) (k : ∀ r, Post r M) : P_X1_canChangeKey (n + 31) M Post :=
  ⟨_, t_cck4 I k _ 0 0 (Nat.lt_succ_self _)⟩
theorem t_pf9 {p2 : Int32} {a : Nat} {Post : Int32 → z_Mem → Prop} (ha : a = n + 2 ∨ a = n + 4) (hp : p2.toInt ≤ 30) (k : ∀ r M1, y_CI n c s M0 M1 → Post r M1) : ∀ (m : Nat) (x4 : Int32) (M : z_Mem), (30 - x4.toInt).toNat < m → y_CI n c s M0 M → P_X5_putForeign_9 (n + 1) Post m p2 (some a) x4 M := by
  intro m
  induction m with
  | zero => intro x4 M h; omega
  | succ m ih =>
    intro x4 M hm I
    refine And.intro (fun _ => k _ _ I) (fun c1 => z_nn_of rfl (t_X3_hasRoom I (fun x2 => And.intro (fun _ => k _ _ I) (fun _ => t_X3_append I ha (fun M6 I6 => ?_)))))
    rw [Int32.le_iff_toInt_le] at c1
    have t1 := i_add1g (x := x4) (by omega)
    intro y ey
    exact ih _ _ (by rw [ey, t1]; omega) I6
theorem t_X5_putForeign {p1 p2 : Int32} {Post : Int32 → z_Mem → Prop} (I : y_CI n c s M0 M) (hp : p2.toInt ≤ 30) (k : ∀ r M1, y_CI n c s M0 M1 → Post r M1) : P_X5_putForeign (n + 1) p1 p2 M Post := by
  refine And.intro (fun _ => ?_) (fun _ => ?_)
  · rw [s_640_1 I.1]; exact ⟨_, t_pf9 (Or.inl rfl) hp k _ 0 M (Nat.lt_succ_self _) I⟩
  · rw [s_641_1 I.1]; exact ⟨_, t_pf9 (Or.inr rfl) hp k _ 0 M (Nat.lt_succ_self _) I⟩
end YV
