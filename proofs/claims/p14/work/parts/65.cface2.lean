/-! ===== THE CLASS: its face ===== -/
section CG
variable {n c s : Nat} {M0 M M1 M2 : z_Mem} {p1 p2 p3 p4 p5 : Int32} {PX : String → z_Mem → Prop}
theorem t_X11_setPath {Post : z_Mem → Prop} (I : y_CI n (c + 6) (s + 32) M M) (k : (0 ≤ p1.toInt ∧ p1.toInt ≤ 1) → rf_spR p2 p3 p4 p5 → ∀ M1, y_D n c s M M1 → Post M1) (kI : ¬ (0 ≤ p1.toInt ∧ p1.toInt ≤ 1) → ∀ M1, y_D n c s M M1 → PX "java/lang/IndexOutOfBoundsException" M1) (kA : (0 ≤ p1.toInt ∧ p1.toInt ≤ 1) → ¬ rf_spR p2 p3 p4 p5 → ∀ M1, y_D n c s M M1 → PX "java/lang/IllegalArgumentException" M1) : P_X11_setPath n p1 p2 p3 p4 p5 M Post PX := by
  refine t_rp I kI (fun hp => t_rr I (show (1 : Int32).toInt = 1 from rfl) (show (30 : Int32).toInt = 30 from rfl) (fun h => kA hp (fun g => h g.1)) (fun h1 => t_rr I (show (1 : Int32).toInt = 1 from rfl) (show (9 : Int32).toInt = 9 from rfl) (fun h => kA hp (fun g => h g.2.1)) (fun h2 => t_rr I (show (1 : Int32).toInt = 1 from rfl) (show (30 : Int32).toInt = 30 from rfl) (fun h => kA hp (fun g => h g.2.2.1)) (fun h3 => t_rr I (show (0 : Int32).toInt = 0 from rfl) (show (30 : Int32).toInt = 30 from rfl) (fun h => kA hp (fun g => h g.2.2.2)) (fun h4 => z_nn_of (s_1408_0 I.1) (t_laneOf I (fun a ha => z_nn_of rfl ?_)))))))
  intro M10 e10
  have I10 := r_sfi I e10 (by decide +kernel)
  intro M11 e11
  have I11 := r_rate I10 e11 h2.2
  intro M12 e12
  have I12 := r_sfi I11 e12 (by decide +kernel)
  intro M13 e13
  have I13 := r_sfi I12 e13 (by decide +kernel)
  exact k hp ⟨h1, h2, h3, h4⟩ M13 (y_Dof (r_w I13 (by omega) (by omega)))
theorem t_X11_setUp {Post : Int32 → z_Mem → Prop} (I : y_CI n (c + 6) (s + 32) M M) (k : ∀ r M1, y_D n c s M M1 → Post r M1) (kI : ∀ M1, y_D n c s M M1 → PX "java/lang/IndexOutOfBoundsException" M1) : P_X11_setUp n p1 p2 M Post PX := by
  refine t_rp I (fun _ => kI) (fun hp => z_nn_of (s_1408_0 I.1) (t_laneOf I (fun a ha => z_nn_of rfl ?_)))
  intro x7 _ M8 e8
  exact k _ M8 (y_Dw (r_388 I e8) (by omega) (by omega))
theorem t_X11_lose {Post : z_Mem → Prop} (I : y_CI n (c + 6) (s + 32) M M) (k : ∀ M1, y_D n c s M M1 → Post M1) (kI : ∀ M1, y_D n c s M M1 → PX "java/lang/IndexOutOfBoundsException" M1) (kA : ∀ M1, y_D n c s M M1 → PX "java/lang/IllegalArgumentException" M1) : P_X11_lose n p1 p2 p3 M Post PX := by
  refine t_rp I (fun _ => kI) (fun hp => t_rr I rfl rfl (fun _ => kA) (fun _ => z_nn_of (s_1408_0 I.1) (t_laneOf I (fun a ha => And.intro (fun _ => z_nn_of rfl ?_) (fun _ => z_nn_of rfl ?_)))))
  · intro M8 e8
    exact k M8 (y_Dof (r_w (r_sfi I e8 (by decide +kernel)) (by omega) (by omega)))
  · intro M8 e8
    exact k M8 (y_Dof (r_w (r_sfi I e8 (by decide +kernel)) (by omega) (by omega)))
theorem t_X11_late {Post : z_Mem → Prop} (I : y_CI n (c + 6) (s + 32) M M) (k : ∀ M1, y_D n c s M M1 → Post M1) (kI : ∀ M1, y_D n c s M M1 → PX "java/lang/IndexOutOfBoundsException" M1) (kA : ∀ M1, y_D n c s M M1 → PX "java/lang/IllegalArgumentException" M1) : P_X11_late n p1 p2 p3 M Post PX := by
  refine t_rp I (fun _ => kI) (fun hp => t_rr I rfl rfl (fun _ => kA) (fun _ => t_rr I rfl rfl (fun _ => kA) (fun _ => z_nn_of (s_1408_0 I.1) (t_laneOf I (fun a ha => z_nn_of rfl ?_)))))
  intro M8 e8
  have I8 := r_sfi I e8 (by decide +kernel)
  intro M9 e9
  exact k M9 (y_Dof (r_w (r_sfi I8 e9 (by decide +kernel)) (by omega) (by omega)))
theorem t_X11_foreign {Post : Int32 → z_Mem → Prop} (I : y_CI n (c + 6) (s + 32) M M) (k : ∀ r M1, y_D n c s M M1 → Post r M1) (kI : ∀ M1, y_D n c s M M1 → PX "java/lang/IndexOutOfBoundsException" M1) (kA : ∀ M1, y_D n c s M M1 → PX "java/lang/IllegalArgumentException" M1) : P_X11_foreign n p1 p2 M Post PX :=
  t_rp I (fun _ => kI) (fun hp => t_rr I (show (1 : Int32).toInt = 1 from rfl) (show (30 : Int32).toInt = 30 from rfl) (fun _ => kA) (fun h => z_nn_of (s_1408_0 I.1) (t_X5_putForeign I h.2 (fun r M4 I4 => k r M4 (y_Dof (r_w I4 (by omega) (by omega)))))))
theorem t_X11_setCookies {Post : Int32 → z_Mem → Prop} (I : y_CI n (c + 6) (s + 32) M M) (k : ∀ r M1, y_D n c s M M1 → Post r M1) : P_X11_setCookies n p1 M Post := by
  refine z_nn_of (s_1410_0 I.1) ?_
  intro x4 _
  refine z_nn_of (s_1410_0 I.1) ?_
  intro M7 e7
  exact k _ M7 (y_Dw (r_1027 I e7) (by omega) (by omega))
theorem t_X11_read {Post : Int32 → z_Mem → Prop} (I : y_CI n (c + 6) (s + 32) M M) (k : ∀ r M1, y_D n c s M M1 → Post r M1) (kI : ∀ M1, y_D n c s M M1 → PX "java/lang/IndexOutOfBoundsException" M1) (kA : ∀ M1, y_D n c s M M1 → PX "java/lang/IllegalArgumentException" M1) : P_X11_read n p1 p2 M Post PX := by
  refine t_rst I (fun _ => kI) (fun hp => t_rr I rfl rfl (fun _ => kA) (fun _ => z_nn_of (s_1409_0 I.1) (And.intro (vp_of (L := 4) (s_l11 I.1) hp.1 (by omega)) (z_nn_of (s_1410_0 I.1) ?_))))
  obtain ⟨st, hs, -⟩ := t_strAt (x := p1) I.1 hp.1 (by omega)
  exact t_X8_readBytes (c := c) (s := s) (r_w I (by omega) (by omega)) rfl ⟨st, hs⟩ (fun r M7 I7 => k r M7 (y_Dof I7))
theorem t_X11_loseState {Post : z_Mem → Prop} (I : y_CI n (c + 6) (s + 32) M M) (k : ∀ M1, y_D n c s M M1 → Post M1) : P_X11_loseState n M Post :=
  z_nn_of (s_1410_0 I.1) (t_X8_forget I (fun M2 I2 => k M2 (y_Dof (r_w I2 (by omega) (by omega)))))
theorem y_Dst {v : Int32} (h : y_CI n c s (z_sfi M 135 (n + 31) v) M1) : y_D n c s M M1 := by
  obtain ⟨a1, a2, a3, a4⟩ := y_Dof h
  exact ⟨a1, fun g hg => (a2 g hg).trans (by rw [zq_fi_sfi, if_neg (by omega)]), a3, a4.trans (by rw [zq_fi_sfi, if_neg (by decide)])⟩
theorem t_X11_connect {Post : z_Mem → Prop} (I : y_CI n (c + 6) (s + 32) M M) (k : ∀ M1, y_D n c s M M1 → Post M1) (kA : ∀ M1, y_D n c s M M1 → PX "java/lang/IllegalArgumentException" M1) (kS : ∀ M1, y_D n c s M M1 → PX "java/lang/IllegalStateException" M1) : P_X11_connect n p1 M Post PX := by
  refine t_rr I rfl rfl (fun _ => kA) (fun _ => z_nn_of (s_1411_0 I.1) (And.intro (fun _ => t_rs I (fun _ => kS) (fun _ => z_nn_of (s_1411_0 I.1) ?_)) (fun _ => t_rs I (fun _ => kS) (fun h => absurd rfl h))))
  exact t_X1_beginHello (c := c) (s := s) (r_w I (by omega) (by omega)) (fun M1 I1 => k M1 (y_Dst I1))
theorem t_X11_write {Post : Int32 → z_Mem → Prop} (I : y_CI n (c + 6) (s + 32) M M) (k : ∀ r M1, y_D n c s M M1 → Post r M1) (kI : ∀ M1, y_D n c s M M1 → PX "java/lang/IndexOutOfBoundsException" M1) (kA : ∀ M1, y_D n c s M M1 → PX "java/lang/IllegalArgumentException" M1) (kS : ∀ M1, y_D n c s M M1 → PX "java/lang/IllegalStateException" M1) : P_X11_write n p1 p2 M Post PX := by
  refine t_rst I (fun _ => kI) (fun hp => t_rr I rfl rfl (fun _ => kA) (fun _ => z_nn_of (s_1409_0 I.1) (And.intro (vp_of (L := 4) (s_l11 I.1) hp.1 (by omega)) ?_)))
  obtain ⟨st, hs, -⟩ := t_strAt (x := p1) I.1 hp.1 (by omega)
  refine z_nn_of hs (And.intro (fun _ => t_rs I (fun _ => kS) (fun h => absurd rfl h)) (fun _ => t_rs I (fun _ => kS) (fun _ => ?_)))
  intro M15 e15
  exact k _ M15 (y_Dw (r_1152 I e15) (by omega) (by omega))
theorem t_X11_setWay {Post : Int32 → z_Mem → Prop} (I : y_CI n (c + 6) (s + 32) M M) (k : ∀ r M1, y_D n c s M M1 → Post r M1) (kI : ∀ M1, y_D n c s M M1 → PX "java/lang/IndexOutOfBoundsException" M1) (kA : ∀ M1, y_D n c s M M1 → PX "java/lang/IllegalArgumentException" M1) : P_X11_setWay n p1 p2 M Post PX := by
  refine t_rp I (fun _ => kI) (fun hp => t_rr I rfl rfl (fun _ => kA) (fun _ => z_nn_of (s_1411_0 I.1) (t_routeOf I (fun a ha => z_nn_of rfl ?_))))
  have f : ∀ g, (∀ N, y_S n N → z_fr N 897 a = some g) → z_nn (z_fr M 897 a) fun a8 => (∀ x_10 : Int32, x_10 = (z_fi M 256 a8) → (∀ M_11 : z_Mem, M_11 = z_sfi M 256 a8 p2 → (Post x_10 M_11))) := fun g hg => z_nn_of (hg M I.1) (fun x10 _ M11 e11 => k _ M11 (y_Dw (r_256 I e11) (by omega) (by omega)))
  rcases ha with rfl | rfl
  · exact f _ (fun N S => s_897_32 S)
  · exact f _ (fun N S => s_897_35 S)
theorem t_X11_check {Post : z_Mem → Prop} (I : y_CI n (c + 6) (s + 32) M M) (k : ∀ M1, y_D n c s M M1 → Post M1) (kI : ∀ M1, y_D n c s M M1 → PX "java/lang/IndexOutOfBoundsException" M1) (kS : ∀ M1, y_D n c s M M1 → PX "java/lang/IllegalStateException" M1) : P_X11_check n p1 M Post PX := by
  refine t_rp I (fun _ => kI) (fun hp => z_nn_of (s_1411_0 I.1) (And.intro (fun _ => t_rs I (fun _ => kS) (fun _ => ?_)) (fun _ => t_rs I (fun _ => kS) (fun h => absurd rfl h))))
  obtain ⟨q1, q2⟩ := t_bc (b := n) (p1 := p1) (kd := 5) (c := c) (s := s) (r_w I (by omega) (by omega)) rfl (fun M1 I1 => k M1 (y_Dof I1))
  exact And.intro q1 (fun M16 e16 M_1 e_1 M_2 e_2 => z_nn_of (s_1408_0 I.1) (q2 M16 e16 M_1 e_1 M_2 e_2))
theorem t_X11_use {Post : Int32 → z_Mem → Prop} (I : y_CI n (c + 6) (s + 32) M M) (k : ∀ r M1, y_D n c s M M1 → Post r M1) (kA : ∀ M1, y_D n c s M M1 → PX "java/lang/IllegalArgumentException" M1) (kS : ∀ M1, y_D n c s M M1 → PX "java/lang/IllegalStateException" M1) : P_X11_use n p1 M Post PX := by
  have f56 : ∀ v : Int32, P_X11_use_56 n Post PX p1 v M := fun v => t_rs I (fun _ => kS) (fun _ => z_nn_of (s_1411_0 I.1) (by
    intro x5 _
    refine z_nn_of (s_1411_0 I.1) ?_
    intro M8 e8
    exact k _ M8 (y_Dof (r_w (r_sfi I e8 (by decide +kernel)) (by omega) (by omega)))))
  have f30 : ∀ v : Int32, P_X11_use_30 n Post PX p1 v M := fun v => t_rs I (fun _ => kS) (fun _ => And.intro (fun _ => f56 1) (fun _ => z_nn_of (s_1411_0 I.1) (t_routeOf I (fun a ha => z_nn_of rfl (And.intro (fun _ => f56 0) (fun _ => f56 1))))))
  exact t_rr I rfl rfl (fun _ => kA) (fun _ => And.intro (fun _ => f30 1) (fun _ => z_nn_of (s_1411_0 I.1) (t_routeOf I (fun a ha => z_nn_of rfl (And.intro (fun _ => f30 0) (fun _ => f30 1))))))
theorem t_X11_changeKey {Post : Int32 → z_Mem → Prop} (I : y_CI n (c + 6) (s + 32) M M) (k : ∀ r M1, y_D n c s M M1 → Post r M1) (kS : ∀ M1, y_D n c s M M1 → PX "java/lang/IllegalStateException" M1) : P_X11_changeKey n M Post PX := by
  refine z_nn_of (s_1411_0 I.1) (t_X1_canChangeKey I (fun x2 => t_rs I (fun _ => kS) (fun _ => z_nn_of (s_1411_0 I.1) ?_)))
  intro M8 e8
  have I8 := r_sfi I e8 (by decide +kernel)
  exact z_nn_of (s_1411_0 I8.1) (k _ M8 (y_Dof (r_w I8 (by omega) (by omega))))
theorem t_X11_close {Post : z_Mem → Prop} (I : y_CI n (c + 6) (s + 32) M M) (k : ∀ M1, y_D n c s M M1 → Post M1) (kS : ∀ M1, y_D n c s M M1 → PX "java/lang/IllegalStateException" M1) : P_X11_close n M Post PX := by
  refine z_nn_of (s_1411_0 I.1) (And.intro (fun h2 => t_rs I (fun _ => kS) (fun _ => z_nn_of (s_1411_0 I.1) ?_)) (fun _ => t_rs I (fun _ => kS) (fun h => absurd rfl h)))
  exact t_X1_beginClosing (c := c) (s := s) (r_w I (by omega) (by omega)) (by rw [h2]; decide) (fun M1 I1 => k M1 (y_Dof I1))
theorem t_X11_now {Post : Int32 → z_Mem → Prop} (I : y_CI n (c + 6) (s + 32) M M) (k : ∀ r, Post r M) : P_X11_now n M Post := z_nn_of (s_1408_0 I.1) (k _)
theorem t_X11_credit {Post : Int32 → z_Mem → Prop} (I : y_CI n (c + 6) (s + 32) M M) (k : ∀ r, Post r M) : P_X11_credit n M Post := z_nn_of (s_1411_0 I.1) (k _)
theorem t_X11_packets {Post : Int32 → z_Mem → Prop} (I : y_CI n (c + 6) (s + 32) M M) (k : ∀ r, Post r M) : P_X11_packets n M Post := z_nn_of (s_1411_0 I.1) (k _)
theorem t_X11_state {Post : Int32 → z_Mem → Prop} (I : y_CI n (c + 6) (s + 32) M M) (k : ∀ r, Post r M) (kA : ∀ M1, y_D n c s M M1 → PX "java/lang/IllegalArgumentException" M1) : P_X11_state n p1 M Post PX :=
  t_rr I rfl rfl (fun _ => kA) (fun _ => And.intro (fun _ => z_nn_of (s_1411_0 I.1) (k _)) (And.intro (fun _ => z_nn_of (s_1410_0 I.1) (k _)) (And.intro (fun _ => z_nn_of (s_1411_0 I.1) (k _)) (And.intro (fun _ => z_nn_of (s_1410_0 I.1) (k _)) (fun _ => z_nn_of (s_1411_0 I.1) (k _))))))
theorem t_asNum {Post : Int32 → z_Mem → Prop} (k : ∀ r, Post r M) : P_X11_asNumber p1 M Post := And.intro (fun _ => k _) (fun _ => k _)
theorem t_X11_path {Post : Int32 → z_Mem → Prop} (I : y_CI n (c + 6) (s + 32) M M) (k : ∀ r, Post r M) (kI : ∀ M1, y_D n c s M M1 → PX "java/lang/IndexOutOfBoundsException" M1) (kA : ∀ M1, y_D n c s M M1 → PX "java/lang/IllegalArgumentException" M1) : P_X11_path n p1 p2 M Post PX := by
  refine t_rp I (fun _ => kI) (fun hp => t_rr I rfl rfl (fun _ => kA) (fun _ => z_nn_of (s_1411_0 I.1) (t_routeOf I (fun a ha => ?_))))
  obtain ⟨g, hg⟩ : ∃ g, z_fr M 897 a = some g := by
    rcases ha with rfl | rfl
    · exact ⟨_, s_897_32 I.1⟩
    · exact ⟨_, s_897_35 I.1⟩
  exact And.intro (fun _ => z_nn_of rfl (z_nn_of hg (k _))) (And.intro (fun _ => z_nn_of rfl (z_nn_of hg (k _))) (And.intro (fun _ => z_nn_of rfl (k _)) (And.intro (fun _ => z_nn_of rfl (k _)) (And.intro (fun _ => z_nn_of rfl (k _)) (And.intro (fun _ => z_nn_of rfl (k _)) (And.intro (fun _ => z_nn_of rfl (k _)) (And.intro (fun _ => z_nn_of rfl (t_asNum k)) (fun _ => z_nn_of (s_1408_0 I.1) (t_laneOf I (fun b hb => z_nn_of rfl (k _)))))))))))
theorem t_X11_stream {Post : Int32 → z_Mem → Prop} (I : y_CI n (c + 6) (s + 32) M M) (k : ∀ r, Post r M) (kI : ∀ M1, y_D n c s M M1 → PX "java/lang/IndexOutOfBoundsException" M1) (kA : ∀ M1, y_D n c s M M1 → PX "java/lang/IllegalArgumentException" M1) : P_X11_stream n p1 p2 M Post PX := by
  refine t_rst I (fun _ => kI) (fun hp => t_rr I rfl rfl (fun _ => kA) (fun _ => z_nn_of (s_1409_0 I.1) (And.intro (vp_of (L := 4) (s_l11 I.1) hp.1 (by omega)) ?_)))
  obtain ⟨st, hs, -⟩ := t_strAt (x := p1) I.1 hp.1 (by omega)
  exact And.intro (fun _ => z_nn_of hs (k _)) (And.intro (fun _ => z_nn_of hs (k _)) (And.intro (fun _ => z_nn_of hs (k _)) (And.intro (fun _ => z_nn_of hs (k _)) (And.intro (fun _ => z_nn_of hs (k _)) (And.intro (fun _ => z_nn_of hs (k _)) (fun _ => z_nn_of hs (k _)))))))
theorem t_X11_packet {Post : Int32 → z_Mem → Prop} (I : y_CI n (c + 6) (s + 32) M M) (k : ∀ r, Post r M) (kI : ∀ M1, y_D n c s M M1 → PX "java/lang/IndexOutOfBoundsException" M1) (kA : ∀ M1, y_D n c s M M1 → PX "java/lang/IllegalArgumentException" M1) : P_X11_packet n p1 p2 M Post PX := by
  refine z_nn_of (s_1411_0 I.1) (t_X1_packetAt I rfl (fun x2 => And.intro (fun _ => t_exc I kI) (fun a4 h4 => ?_)))
  subst h4
  exact t_rr I rfl rfl (fun _ => kA) (fun _ => And.intro (fun _ => z_nn_of rfl (k _)) (And.intro (fun _ => z_nn_of rfl (k _)) (And.intro (fun _ => z_nn_of rfl (k _)) (And.intro (fun _ => z_nn_of rfl (k _)) (And.intro (fun _ => z_nn_of rfl (k _)) (And.intro (fun _ => z_nn_of rfl (k _)) (And.intro (fun _ => z_nn_of rfl (k _)) (And.intro (fun _ => z_nn_of rfl (k _)) (And.intro (fun _ => z_nn_of rfl (t_asNum k)) (And.intro (fun _ => z_nn_of rfl (t_asNum k)) (fun _ => z_nn_of rfl (t_asNum k))))))))))))
theorem t_X11_count {Post : Int32 → z_Mem → Prop} (I : y_CI n (c + 6) (s + 32) M M) (k : ∀ r, Post r M) (kA : ∀ M1, y_D n c s M M1 → PX "java/lang/IllegalArgumentException" M1) : P_X11_count n p1 M Post PX := by
  refine t_rr I rfl rfl (fun _ => kA) (fun _ => z_nn_of (s_1411_0 I.1) (t_routeOf I (fun a ha => z_nn_of (s_1411_0 I.1) (t_routeOf I (fun b hb => ?_)))))
  have hr : ∀ a, (a = n + 32 ∨ a = n + 35) → ∃ g, z_fr M 897 a = some g := fun a ha => by
    rcases ha with rfl | rfl
    · exact ⟨_, s_897_32 I.1⟩
    · exact ⟨_, s_897_35 I.1⟩
  obtain ⟨g, hg⟩ := hr a ha
  obtain ⟨g2, hg2⟩ := hr b hb
  exact And.intro (fun _ => z_nn_of rfl (z_nn_of rfl (k _))) (And.intro (fun _ => z_nn_of rfl (z_nn_of rfl (k _))) (And.intro (fun _ => z_nn_of rfl (z_nn_of rfl (k _))) (And.intro (fun _ => z_nn_of (s_1411_0 I.1) (k _)) (And.intro (fun _ => z_nn_of (s_1410_0 I.1) (k _)) (fun _ => z_nn_of rfl (z_nn_of hg (z_nn_of rfl (z_nn_of hg2 (k _)))))))))
theorem t_ifa8 {Post : Int32 → z_Mem → Prop} (I : y_CI n c s M0 M) (k : ∀ r, Post r M) : ∀ (m : Nat) (x1 x2 x3 : Int32), (400 - x3.toInt).toNat < m → P_X11_inFlightAnew_8 n Post PX m x1 x2 x3 M := by
  have ls := y_sent I
  intro m
  induction m with
  | zero => intro x1 x2 x3 h; exact absurd h (Nat.not_lt_zero _)
  | succ m ih =>
    intro x1 x2 x3 hm
    refine z_nn_of (s_1411_0 I.1) (And.intro (fun _ => k _) (fun c1 => z_nn_of (s_1411_0 I.1) (t_X1_packetAt I rfl (fun x7 => ?_))))
    have c' := i_nle c1 rfl rfl
    have ny : ∀ y, y = x3 + 1 → y.toInt = x3.toInt + 1 := fun y ey => by rw [ey]; exact i_add1g (by omega)
    have go : ∀ v : Int32, P_X11_inFlightAnew_54 n Post PX (fun q0 q1 q2 qM => P_X11_inFlightAnew_8 n Post PX m q0 q1 q2 qM) x1 v x3 M := fun v y ey => by
      have ty := ny y ey
      exact ih x1 v y (by omega)
    exact And.intro (fun _ => go _) (fun a9 _ => And.intro (fun _ => And.intro (fun _ x14 _ => go x14) (fun _ => go _)) (fun _ => go _))
theorem t_X11_inFlightAnew {Post : Int32 → z_Mem → Prop} (I : y_CI n (c + 6) (s + 32) M M) (k : ∀ r, Post r M) (kI : ∀ M1, y_D n c s M M1 → PX "java/lang/IndexOutOfBoundsException" M1) : P_X11_inFlightAnew n p1 M Post PX :=
  t_rp I (fun _ => kI) (fun _ => ⟨_, t_ifa8 I k _ p1 0 0 (Nat.lt_succ_self _)⟩)
theorem t_ga13 {Post : Int32 → z_Mem → Prop} {Ms : z_Mem} (k : ∀ r M1, y_CI n c s Ms M1 → Post r M1) : ∀ (m : Nat) (x1 x2 : Int32) (M : z_Mem), (400 - x2.toInt).toNat < m → y_CI n c s Ms M → P_X11_gotAnew_13 n Post PX m x1 x2 M := by
  intro m
  induction m with
  | zero => intro x1 x2 M h; exact absurd h (Nat.not_lt_zero _)
  | succ m ih =>
    intro x1 x2 M hm I
    have ls := y_sent I
    refine z_nn_of (s_1411_0 I.1) (And.intro (fun _ => ?_) (fun c1 => z_nn_of (s_1411_0 I.1) (t_X1_packetAt I rfl (fun x9 => ?_))))
    · rw [show z_fr M 1412 n = some (n + 39) from s_1412_0 I.1]
      exact t_prefix (L := 200) I (by decide) (s_l39 I.1) (fun r => k r M I)
    · have c' := i_nle c1 rfl rfl
      have ny : ∀ y, y = x2 + 1 → y.toInt = x2.toInt + 1 := fun y ey => by rw [ey]; exact i_add1g (by omega)
      have go : ∀ M1, y_CI n c s Ms M1 → P_X11_gotAnew_68 n Post PX (fun q0 q1 qM => P_X11_gotAnew_13 n Post PX m q0 q1 qM) x1 x2 M1 := fun M1 I1 y ey => by
        have ty := ny y ey
        exact ih x1 y M1 (by omega) I1
      refine And.intro (fun _ => go M I) (fun a11 _ => And.intro (fun _ => And.intro (fun _ => ?_) (fun _ => go M I)) (fun _ => go M I))
      rw [show z_fr M 1412 n = some (n + 39) from s_1412_0 I.1]
      exact t_markRow (L := 200) I (by omega) (by decide) (fun N S => s_l39 S) (fun M19 I19 => go M19 I19)
theorem t_X11_gotAnew {Post : Int32 → z_Mem → Prop} (I : y_CI n (c + 6) (s + 32) M M) (k : ∀ r M1, y_D n c s M M1 → Post r M1) (kI : ∀ M1, y_D n c s M M1 → PX "java/lang/IndexOutOfBoundsException" M1) : P_X11_gotAnew n p1 M Post PX := by
  refine t_rst I (fun _ => kI) (fun hp => ?_)
  rw [show z_fr M 1412 n = some (n + 39) from s_1412_0 I.1]
  exact t_clearRow (L := 200) I (by omega) (by decide) (fun N S => s_l39 S) (fun M22 I22 => ⟨_, t_ga13 (fun r M1 I1 => k r M1 (y_Dof (r_w I1 (by omega) (by omega)))) _ p1 0 M22 (Nat.lt_succ_self _) I22⟩)
end CG
