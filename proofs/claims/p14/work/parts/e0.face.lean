/-! ===== THE CLASS: its face, with what it does ===== -/
section UF
variable {n c s : Nat} {M0 M M1 M2 : z_Mem} {p1 p2 p3 p4 p5 : Int32} {PX : String → z_Mem → Prop}
/-- behind a throw -/
def y_DX (n c s : Nat) (M M1 : z_Mem) : Prop := y_D n c s M M1 ∧ ∃ k w, M1 = z_exc M k w
theorem u_exc {E : String} (I : y_CI n (c + 6) (s + 32) M M) (kx : ∀ M1, y_DX n c s M M1 → PX E M1) : z_room M 6 ∧ (∀ k w, k ≤ 1 → w ≤ 6 → PX E (z_exc M k w)) :=
  ⟨r_room (c := c) (s := s) (w := 6) (r_w I (by omega) (by omega)), fun k w hk hw => kx _ ⟨y_Dof (r_exc (c := c) (s := s) (r_w I (by omega) (by omega)) hk hw), k, w, rfl⟩⟩
theorem u_rp {Post : z_Mem → Prop} (I : y_CI n (c + 6) (s + 32) M M) (kI : ¬ (0 ≤ p1.toInt ∧ p1.toInt ≤ 1) → ∀ M1, y_DX n c s M M1 → PX "java/lang/IndexOutOfBoundsException" M1) (k : 0 ≤ p1.toInt ∧ p1.toInt ≤ 1 → Post M) : P_X11_requirePath p1 M Post PX := by
  refine And.intro (fun c1 => u_exc I (kI ?_)) (fun c1 => And.intro (fun c2 => k ?_) (fun c2 => u_exc I (kI ?_)))
  · have := i_lt c1 rfl (show (0 : Int32).toInt = 0 from rfl); omega
  · have := i_nlt c1 rfl (show (0 : Int32).toInt = 0 from rfl); have := i_le c2 rfl (show (1 : Int32).toInt = 1 from rfl); omega
  · have := i_nle c2 rfl (show (1 : Int32).toInt = 1 from rfl); omega
theorem u_rst {Post : z_Mem → Prop} (I : y_CI n (c + 6) (s + 32) M M) (kI : ¬ (0 ≤ p1.toInt ∧ p1.toInt ≤ 3) → ∀ M1, y_DX n c s M M1 → PX "java/lang/IndexOutOfBoundsException" M1) (k : 0 ≤ p1.toInt ∧ p1.toInt ≤ 3 → Post M) : P_X11_requireStream p1 M Post PX := by
  refine And.intro (fun c1 => u_exc I (kI ?_)) (fun c1 => And.intro (fun c2 => k ?_) (fun c2 => u_exc I (kI ?_)))
  · have := i_lt c1 rfl (show (0 : Int32).toInt = 0 from rfl); omega
  · have := i_nlt c1 rfl (show (0 : Int32).toInt = 0 from rfl); have := i_lt c2 rfl (show (4 : Int32).toInt = 4 from rfl); omega
  · have := i_nlt c2 rfl (show (4 : Int32).toInt = 4 from rfl); omega
theorem u_rr {lo hi : Int32} {a b : Int} {Post : z_Mem → Prop} (I : y_CI n (c + 6) (s + 32) M M) (ha : lo.toInt = a) (hb : hi.toInt = b) (kA : ¬ (a ≤ p1.toInt ∧ p1.toInt ≤ b) → ∀ M1, y_DX n c s M M1 → PX "java/lang/IllegalArgumentException" M1) (k : a ≤ p1.toInt ∧ p1.toInt ≤ b → Post M) : P_X11_requireRange p1 lo hi M Post PX := by
  refine And.intro (fun c1 => u_exc I (kA ?_)) (fun c1 => And.intro (fun c2 => k ?_) (fun c2 => u_exc I (kA ?_)))
  · have := i_lt c1 rfl ha; omega
  · have := i_nlt c1 rfl ha; have := i_le c2 rfl hb; omega
  · have := i_nle c2 rfl hb; omega
theorem u_rs {Post : z_Mem → Prop} (I : y_CI n (c + 6) (s + 32) M M) (kS : p1 = 0 → ∀ M1, y_DX n c s M M1 → PX "java/lang/IllegalStateException" M1) (k : ¬ p1 = 0 → Post M) : P_X11_requireState p1 M Post PX :=
  And.intro (fun c1 => u_exc I (kS c1)) (fun c1 => k c1)
theorem u_p (hp : 0 ≤ p1.toInt ∧ p1.toInt ≤ 1) : jN p1 < 2 ∧ p1 = nI (jN p1) := by
  have := jN_toInt hp.1
  exact ⟨by omega, (jI_jN hp.1).symm⟩
theorem u_laneOf {Post : Option Nat → z_Mem → Prop} (I : y_CI n c s M0 M) (hp : 0 ≤ p1.toInt ∧ p1.toInt ≤ 1) (k : Post (some (n + (2 + 2 * jN p1))) M) : P_X5_laneOf (n + 1) p1 M Post := by
  have := jN_toInt hp.1
  refine And.intro (fun h => ?_) (fun h => ?_)
  · rw [s_640_1 I.1]
    have e : jN p1 = 0 := by rw [h]; rfl
    rw [e] at k; exact k
  · rw [s_641_1 I.1]
    have h' := i_ne h rfl (show (0 : Int32).toInt = 0 from rfl)
    have e : jN p1 = 1 := by omega
    rw [e] at k; exact k
theorem u_routeOf {Post : Option Nat → z_Mem → Prop} (I : y_CI n c s M0 M) (hp : 0 ≤ p1.toInt ∧ p1.toInt ≤ 1) (k : Post (some (n + (32 + 3 * jN p1))) M) : P_X1_routeOf (n + 31) p1 M Post := by
  have := jN_toInt hp.1
  refine And.intro (fun h => ?_) (fun h => ?_)
  · rw [s_130_31 I.1]
    have e : jN p1 = 0 := by rw [h]; rfl
    rw [e] at k; exact k
  · rw [s_131_31 I.1]
    have h' := i_ne h rfl (show (0 : Int32).toInt = 0 from rfl)
    have e : jN p1 = 1 := by omega
    rw [e] at k; exact k
theorem u_X11_setPath {Post : z_Mem → Prop} (I : y_CI n (c + 6) (s + 32) M M) (k : (0 ≤ p1.toInt ∧ p1.toInt ≤ 1) → rf_spR p2 p3 p4 p5 → ∀ M1, y_D n c s M M1 → M1 = z_sfi (z_sfi (z_sfi (z_sfi M 384 (n + (2 + 2 * jN p1)) p2) 385 (n + (2 + 2 * jN p1)) p3) 386 (n + (2 + 2 * jN p1)) p4) 387 (n + (2 + 2 * jN p1)) p5 → Post M1) (kI : ¬ (0 ≤ p1.toInt ∧ p1.toInt ≤ 1) → ∀ M1, y_DX n c s M M1 → PX "java/lang/IndexOutOfBoundsException" M1) (kA : (0 ≤ p1.toInt ∧ p1.toInt ≤ 1) → ¬ rf_spR p2 p3 p4 p5 → ∀ M1, y_DX n c s M M1 → PX "java/lang/IllegalArgumentException" M1) : P_X11_setPath n p1 p2 p3 p4 p5 M Post PX := by
  refine u_rp I kI (fun hp => u_rr I (show (1 : Int32).toInt = 1 from rfl) (show (30 : Int32).toInt = 30 from rfl) (fun h => kA hp (fun g => h g.1)) (fun h1 => u_rr I (show (1 : Int32).toInt = 1 from rfl) (show (9 : Int32).toInt = 9 from rfl) (fun h => kA hp (fun g => h g.2.1)) (fun h2 => u_rr I (show (1 : Int32).toInt = 1 from rfl) (show (30 : Int32).toInt = 30 from rfl) (fun h => kA hp (fun g => h g.2.2.1)) (fun h3 => u_rr I (show (0 : Int32).toInt = 0 from rfl) (show (30 : Int32).toInt = 30 from rfl) (fun h => kA hp (fun g => h g.2.2.2)) (fun h4 => z_nn_of (s_1408_0 I.1) (u_laneOf I hp (z_nn_of rfl ?_)))))))
  intro M10 e10
  have I10 := r_sfi I e10 (by decide +kernel)
  intro M11 e11
  have I11 := r_rate I10 e11 h2.2
  intro M12 e12
  have I12 := r_sfi I11 e12 (by decide +kernel)
  intro M13 e13
  have I13 := r_sfi I12 e13 (by decide +kernel)
  exact k hp ⟨h1, h2, h3, h4⟩ M13 (y_Dof (r_w I13 (by omega) (by omega))) (by rw [e13, e12, e11, e10])
theorem u_X11_setUp {Post : Int32 → z_Mem → Prop} (I : y_CI n (c + 6) (s + 32) M M) (k : (0 ≤ p1.toInt ∧ p1.toInt ≤ 1) → ∀ r M1, y_D n c s M M1 → M1 = z_sfi M 388 (n + (2 + 2 * jN p1)) p2 → Post r M1) (kI : ¬ (0 ≤ p1.toInt ∧ p1.toInt ≤ 1) → ∀ M1, y_DX n c s M M1 → PX "java/lang/IndexOutOfBoundsException" M1) : P_X11_setUp n p1 p2 M Post PX := by
  refine u_rp I kI (fun hp => z_nn_of (s_1408_0 I.1) (u_laneOf I hp (z_nn_of rfl ?_)))
  intro x7 _ M8 e8
  exact k hp _ M8 (y_Dw (r_388 I e8) (by omega) (by omega)) e8
theorem u_X11_lose {Post : z_Mem → Prop} (I : y_CI n (c + 6) (s + 32) M M) (k : (0 ≤ p1.toInt ∧ p1.toInt ≤ 1) → (0 ≤ p3.toInt ∧ p3.toInt ≤ 20) → ∀ M1, y_D n c s M M1 → M1 = z_sfi M (if p2 = 0 then 390 else 389) (n + (2 + 2 * jN p1)) p3 → Post M1) (kX : ¬ ((0 ≤ p1.toInt ∧ p1.toInt ≤ 1) ∧ (0 ≤ p3.toInt ∧ p3.toInt ≤ 20)) → ∀ E, E = "java/lang/IndexOutOfBoundsException" ∨ E = "java/lang/IllegalArgumentException" → ∀ M1, y_DX n c s M M1 → PX E M1) : P_X11_lose n p1 p2 p3 M Post PX := by
  refine u_rp I (fun h => kX (fun g => h g.1) _ (Or.inl rfl)) (fun hp => u_rr I (show (0 : Int32).toInt = 0 from rfl) (show (20 : Int32).toInt = 20 from rfl) (fun h => kX (fun g => h g.2) _ (Or.inr rfl)) (fun h1 => z_nn_of (s_1408_0 I.1) (u_laneOf I hp (And.intro (fun h => z_nn_of rfl ?_) (fun h => z_nn_of rfl ?_)))))
  · intro M8 e8
    exact k hp h1 M8 (y_Dof (r_w (r_sfi I e8 (by decide +kernel)) (by omega) (by omega))) (by rw [if_pos h]; exact e8)
  · intro M8 e8
    exact k hp h1 M8 (y_Dof (r_w (r_sfi I e8 (by decide +kernel)) (by omega) (by omega))) (by rw [if_neg h]; exact e8)
theorem u_X11_late {Post : z_Mem → Prop} (I : y_CI n (c + 6) (s + 32) M M) (k : (0 ≤ p1.toInt ∧ p1.toInt ≤ 1) → (0 ≤ p2.toInt ∧ p2.toInt ≤ 20) → (0 ≤ p3.toInt ∧ p3.toInt ≤ 50) → ∀ M1, y_D n c s M M1 → M1 = z_sfi (z_sfi M 391 (n + (2 + 2 * jN p1)) p2) 392 (n + (2 + 2 * jN p1)) p3 → Post M1) (kX : ¬ ((0 ≤ p1.toInt ∧ p1.toInt ≤ 1) ∧ (0 ≤ p2.toInt ∧ p2.toInt ≤ 20) ∧ (0 ≤ p3.toInt ∧ p3.toInt ≤ 50)) → ∀ E, E = "java/lang/IndexOutOfBoundsException" ∨ E = "java/lang/IllegalArgumentException" → ∀ M1, y_DX n c s M M1 → PX E M1) : P_X11_late n p1 p2 p3 M Post PX := by
  refine u_rp I (fun h => kX (fun g => h g.1) _ (Or.inl rfl)) (fun hp => u_rr I (show (0 : Int32).toInt = 0 from rfl) (show (20 : Int32).toInt = 20 from rfl) (fun h => kX (fun g => h g.2.1) _ (Or.inr rfl)) (fun h1 => u_rr I (show (0 : Int32).toInt = 0 from rfl) (show (50 : Int32).toInt = 50 from rfl) (fun h => kX (fun g => h g.2.2) _ (Or.inr rfl)) (fun h2 => z_nn_of (s_1408_0 I.1) (u_laneOf I hp (z_nn_of rfl ?_)))))
  intro M8 e8
  have I8 := r_sfi I e8 (by decide +kernel)
  intro M9 e9
  exact k hp h1 h2 M9 (y_Dof (r_w (r_sfi I8 e9 (by decide +kernel)) (by omega) (by omega))) (by rw [e9, e8])
theorem u_X11_foreign {Post : Int32 → z_Mem → Prop} (I : y_CI n (c + 6) (s + 32) M M) (k : (0 ≤ p1.toInt ∧ p1.toInt ≤ 1) → (1 ≤ p2.toInt ∧ p2.toInt ≤ 30) → ∀ r M1, y_D n c s M M1 → cF_X5_putForeign (n + 1) p1 p2 M = (r, M1) → Post r M1) (kX : ¬ ((0 ≤ p1.toInt ∧ p1.toInt ≤ 1) ∧ (1 ≤ p2.toInt ∧ p2.toInt ≤ 30)) → ∀ E, E = "java/lang/IndexOutOfBoundsException" ∨ E = "java/lang/IllegalArgumentException" → ∀ M1, y_DX n c s M M1 → PX E M1) : P_X11_foreign n p1 p2 M Post PX :=
  u_rp I (fun h => kX (fun g => h g.1) _ (Or.inl rfl)) (fun hp => u_rr I (show (1 : Int32).toInt = 1 from rfl) (show (30 : Int32).toInt = 30 from rfl) (fun h => kX (fun g => h g.2) _ (Or.inr rfl)) (fun h => z_nn_of (s_1408_0 I.1) (cS_X5_putForeign (Q := fun _ M4 => y_CI n (c + 6) (s + 32) M M4) (t_X5_putForeign I h.2 (fun r M4 I4 => I4)) (fun r M4 I4 e => k hp h r M4 (y_Dof (r_w I4 (by omega) (by omega))) e))))
theorem u_X11_setCookies {Post : Int32 → z_Mem → Prop} (I : y_CI n (c + 6) (s + 32) M M) (k : ∀ r M1, y_D n c s M M1 → M1 = z_sfi M 1027 (n + 28) p1 → Post r M1) : P_X11_setCookies n p1 M Post := by
  refine z_nn_of (s_1410_0 I.1) ?_
  intro x4 _
  refine z_nn_of (s_1410_0 I.1) ?_
  intro M7 e7
  exact k _ M7 (y_Dw (r_1027 I e7) (by omega) (by omega)) e7
theorem u_X11_read {Post : Int32 → z_Mem → Prop} (I : y_CI n (c + 6) (s + 32) M M) (k : (0 ≤ p1.toInt ∧ p1.toInt ≤ 3) → (1 ≤ p2.toInt ∧ p2.toInt ≤ 200) → ∀ r M1, y_D n c s M M1 → cF_X8_readBytes (n + 28) (z_ar M (n + 11) (jN p1)) p2 M = (r, M1) → Post r M1) (kX : ¬ ((0 ≤ p1.toInt ∧ p1.toInt ≤ 3) ∧ (1 ≤ p2.toInt ∧ p2.toInt ≤ 200)) → ∀ E, E = "java/lang/IndexOutOfBoundsException" ∨ E = "java/lang/IllegalArgumentException" → ∀ M1, y_DX n c s M M1 → PX E M1) : P_X11_read n p1 p2 M Post PX := by
  refine u_rst I (fun h => kX (fun g => h g.1) _ (Or.inl rfl)) (fun hp => u_rr I (show (1 : Int32).toInt = 1 from rfl) (show (200 : Int32).toInt = 200 from rfl) (fun h => kX (fun g => h g.2) _ (Or.inr rfl)) (fun h1 => z_nn_of (s_1409_0 I.1) (And.intro (vp_of (L := 4) (s_l11 I.1) hp.1 (by omega)) (z_nn_of (s_1410_0 I.1) ?_))))
  obtain ⟨st, hs, -⟩ := t_strAt (x := p1) I.1 hp.1 (by omega)
  exact cS_X8_readBytes (Q := fun _ M4 => y_CI n c s M M4) (t_X8_readBytes (c := c) (s := s) (r_w I (by omega) (by omega)) rfl ⟨st, hs⟩ (fun r M7 I7 => I7)) (fun r M7 I7 e => k hp h1 r M7 (y_Dof I7) e)
theorem u_X11_loseState {Post : z_Mem → Prop} (I : y_CI n (c + 6) (s + 32) M M) (k : ∀ M1, y_D n c s M M1 → cF_X8_forget (n + 28) M = M1 → Post M1) : P_X11_loseState n M Post :=
  z_nn_of (s_1410_0 I.1) (cS_X8_forget (Q := fun M2 => y_CI n (c + 6) (s + 32) M M2) (t_X8_forget I (fun M2 I2 => I2)) (fun M2 I2 e => k M2 (y_Dof (r_w I2 (by omega) (by omega))) e))
theorem u_X11_connect {Post : z_Mem → Prop} (I : y_CI n (c + 6) (s + 32) M M) (k : (-1 ≤ p1.toInt ∧ p1.toInt ≤ 9) → z_fi M 135 (n + 31) = 0 → ∀ M1, y_D n c s M M1 → cF_X1_beginHello (n + 31) p1 M = M1 → Post M1) (kX : ¬ ((-1 ≤ p1.toInt ∧ p1.toInt ≤ 9) ∧ z_fi M 135 (n + 31) = 0) → ∀ E, E = "java/lang/IllegalArgumentException" ∨ E = "java/lang/IllegalStateException" → ∀ M1, y_DX n c s M M1 → PX E M1) : P_X11_connect n p1 M Post PX := by
  refine u_rr I (show (-1 : Int32).toInt = -1 from rfl) (show (9 : Int32).toInt = 9 from rfl) (fun h => kX (fun g => h g.1) _ (Or.inl rfl)) (fun hp => z_nn_of (s_1411_0 I.1) (And.intro (fun h => u_rs I (fun e => absurd e (by decide)) (fun _ => z_nn_of (s_1411_0 I.1) ?_)) (fun h => u_rs I (fun _ => kX (fun g => h g.2) _ (Or.inr rfl)) (fun h => absurd rfl h))))
  exact cS_X1_beginHello (Q := fun M1 => y_D n c s M M1) (t_X1_beginHello (c := c) (s := s) (r_w I (by omega) (by omega)) (fun M1 I1 => y_Dst I1)) (fun M1 D e => k hp h M1 D e)
theorem u_X11_write {Post : Int32 → z_Mem → Prop} (I : y_CI n (c + 6) (s + 32) M M) (k : (0 ≤ p1.toInt ∧ p1.toInt ≤ 3) → (1 ≤ p2.toInt ∧ p2.toInt ≤ 200) → ∀ st, z_ar M (n + 11) (jN p1) = some st → ¬ 200 < z_fi M 1152 st + p2 → ∀ r M1, y_D n c s M M1 → M1 = z_sfi M 1152 st (z_fi M 1152 st + p2) → Post r M1) (kX : ¬ ((0 ≤ p1.toInt ∧ p1.toInt ≤ 3) ∧ (1 ≤ p2.toInt ∧ p2.toInt ≤ 200) ∧ ∀ st, z_ar M (n + 11) (jN p1) = some st → ¬ 200 < z_fi M 1152 st + p2) → ∀ E, E = "java/lang/IndexOutOfBoundsException" ∨ E = "java/lang/IllegalArgumentException" ∨ E = "java/lang/IllegalStateException" → ∀ M1, y_DX n c s M M1 → PX E M1) : P_X11_write n p1 p2 M Post PX := by
  refine u_rst I (fun h => kX (fun g => h g.1) _ (Or.inl rfl)) (fun hp => u_rr I (show (1 : Int32).toInt = 1 from rfl) (show (200 : Int32).toInt = 200 from rfl) (fun h => kX (fun g => h g.2.1) _ (Or.inr (Or.inl rfl))) (fun h1 => z_nn_of (s_1409_0 I.1) (And.intro (vp_of (L := 4) (s_l11 I.1) hp.1 (by omega)) ?_)))
  obtain ⟨st, hs, -⟩ := t_strAt (x := p1) I.1 hp.1 (by omega)
  refine z_nn_of hs (And.intro (fun h => u_rs I (fun _ => kX (fun g => g.2.2 st hs h) _ (Or.inr (Or.inr rfl))) (fun h => absurd rfl h)) (fun h => u_rs I (fun e => absurd e (by decide)) (fun _ => ?_)))
  intro M15 e15
  exact k hp h1 st hs h _ M15 (y_Dw (r_1152 I e15) (by omega) (by omega)) e15
theorem u_X11_setWay {Post : Int32 → z_Mem → Prop} (I : y_CI n (c + 6) (s + 32) M M) (k : (0 ≤ p1.toInt ∧ p1.toInt ≤ 1) → (0 ≤ p2.toInt ∧ p2.toInt ≤ 2) → ∀ r M1, y_D n c s M M1 → M1 = z_sfi M 256 (n + (33 + 3 * jN p1)) p2 → Post r M1) (kX : ¬ ((0 ≤ p1.toInt ∧ p1.toInt ≤ 1) ∧ (0 ≤ p2.toInt ∧ p2.toInt ≤ 2)) → ∀ E, E = "java/lang/IndexOutOfBoundsException" ∨ E = "java/lang/IllegalArgumentException" → ∀ M1, y_DX n c s M M1 → PX E M1) : P_X11_setWay n p1 p2 M Post PX := by
  refine u_rp I (fun h => kX (fun g => h g.1) _ (Or.inl rfl)) (fun hp => u_rr I (show (0 : Int32).toInt = 0 from rfl) (show (2 : Int32).toInt = 2 from rfl) (fun h => kX (fun g => h g.2) _ (Or.inr rfl)) (fun h1 => z_nn_of (s_1411_0 I.1) (u_routeOf I hp (z_nn_of rfl ?_))))
  have hg : z_fr M 897 (n + (32 + 3 * jN p1)) = some (n + (33 + 3 * jN p1)) := by
    rcases (show jN p1 = 0 ∨ jN p1 = 1 by have := (u_p hp).1; omega) with e | e
    · rw [e]; exact s_897_32 I.1
    · rw [e]; exact s_897_35 I.1
  exact z_nn_of hg (fun x10 _ M11 e11 => k hp h1 _ M11 (y_Dw (r_256 I e11) (by omega) (by omega)) e11)
theorem u_X11_check {Post : z_Mem → Prop} (I : y_CI n (c + 6) (s + 32) M M) (k : (0 ≤ p1.toInt ∧ p1.toInt ≤ 1) → z_fi M 135 (n + 31) = 2 → ∀ M1, y_D n c s M M1 → M1 = cF_X5_putToServer (n + 1) p1 (some (z_sz M)) (cF_X4_init (z_sz M) 5 (z_new M 5 8)) → Post M1) (kX : ¬ ((0 ≤ p1.toInt ∧ p1.toInt ≤ 1) ∧ z_fi M 135 (n + 31) = 2) → ∀ E, E = "java/lang/IndexOutOfBoundsException" ∨ E = "java/lang/IllegalStateException" → ∀ M1, y_DX n c s M M1 → PX E M1) : P_X11_check n p1 M Post PX := by
  refine u_rp I (fun h => kX (fun g => h g.1) _ (Or.inl rfl)) (fun hp => z_nn_of (s_1411_0 I.1) (And.intro (fun h => u_rs I (fun e => absurd e (by decide)) (fun _ => ?_)) (fun h => u_rs I (fun _ => kX (fun g => h g.2) _ (Or.inr rfl)) (fun h => absurd rfl h))))
  obtain ⟨q1, q2⟩ := t_bc (b := n) (p1 := p1) (kd := 5) (c := c) (s := s) (r_w I (by omega) (by omega)) rfl (fun M1 I1 => I1)
  refine And.intro q1 (fun M16 e16 => cS_X4_init (q2 M16 e16) (fun M17 H u => z_nn_of (s_1408_0 I.1) (cS_X5_putToServer H (fun M18 I18 u2 => k hp h M18 (y_Dof I18) ?_))))
  rw [← u2, ← u, e16]
theorem u_X11_use {Post : Int32 → z_Mem → Prop} (I : y_CI n (c + 6) (s + 32) M M) (k : (0 ≤ p1.toInt ∧ p1.toInt ≤ 2) → (¬ p1 = 1 → ¬ z_fi M 898 (n + 32) = 0) → (¬ p1 = 0 → ¬ z_fi M 898 (n + 35) = 0) → ∀ M1, y_D n c s M M1 → M1 = z_sfi M 143 (n + 31) p1 → Post (z_fi M 143 (n + 31)) M1) (kA : ¬ (0 ≤ p1.toInt ∧ p1.toInt ≤ 2) → ∀ M1, y_DX n c s M M1 → PX "java/lang/IllegalArgumentException" M1) (kS : (0 ≤ p1.toInt ∧ p1.toInt ≤ 2) → ¬ ((¬ p1 = 1 → ¬ z_fi M 898 (n + 32) = 0) ∧ (¬ p1 = 0 → ¬ z_fi M 898 (n + 35) = 0)) → ∀ M1, y_DX n c s M M1 → PX "java/lang/IllegalStateException" M1) : P_X11_use n p1 M Post PX := by
  have f56 : (0 ≤ p1.toInt ∧ p1.toInt ≤ 2) → ∀ v : Int32, (v = 0 ∧ ¬ ((¬ p1 = 1 → ¬ z_fi M 898 (n + 32) = 0) ∧ (¬ p1 = 0 → ¬ z_fi M 898 (n + 35) = 0))) ∨ (v = 1 ∧ (¬ p1 = 1 → ¬ z_fi M 898 (n + 32) = 0) ∧ (¬ p1 = 0 → ¬ z_fi M 898 (n + 35) = 0)) → P_X11_use_56 n Post PX p1 v M := fun hp v hv => u_rs I (fun e => by
    rcases hv with ⟨h1, h2⟩ | ⟨h1, h2, h3⟩
    · exact kS hp h2
    · rw [h1] at e; exact absurd e (by decide)) (fun hne => z_nn_of (s_1411_0 I.1) (by
    intro x5 e5
    refine z_nn_of (s_1411_0 I.1) ?_
    intro M8 e8
    rcases hv with ⟨h1, h2⟩ | ⟨h1, h2, h3⟩
    · exact absurd h1 hne
    · rw [e5]; exact k hp h2 h3 M8 (y_Dof (r_w (r_sfi I e8 (by decide +kernel)) (by omega) (by omega))) e8))
  have f30 : (0 ≤ p1.toInt ∧ p1.toInt ≤ 2) → ∀ v : Int32, (v = 0 ∧ ¬ p1 = 1 ∧ z_fi M 898 (n + 32) = 0) ∨ (v = 1 ∧ (¬ p1 = 1 → ¬ z_fi M 898 (n + 32) = 0)) → P_X11_use_30 n Post PX p1 v M := fun hp v hv => u_rs I (fun e => by
    rcases hv with ⟨h1, h2, h3⟩ | ⟨h1, h2⟩
    · exact kS hp (fun g => g.1 h2 h3)
    · rw [h1] at e; exact absurd e (by decide)) (fun hne => by
    rcases hv with ⟨h1, h2, h3⟩ | ⟨h1, h2⟩
    · exact absurd h1 hne
    · exact And.intro (fun h0 => f56 hp 1 (Or.inr ⟨rfl, h2, fun h => absurd h0 h⟩)) (fun h0 => z_nn_of (s_1411_0 I.1) (u_routeOf I (p1 := 1) (by decide) (z_nn_of rfl (And.intro (fun h => f56 hp 0 (Or.inl ⟨rfl, fun g => g.2 h0 h⟩)) (fun h => f56 hp 1 (Or.inr ⟨rfl, h2, fun _ => h⟩)))))))
  exact u_rr I (show (0 : Int32).toInt = 0 from rfl) (show (2 : Int32).toInt = 2 from rfl) kA (fun hp => And.intro (fun h1 => f30 hp 1 (Or.inr ⟨rfl, fun h => absurd h1 h⟩)) (fun h1 => z_nn_of (s_1411_0 I.1) (u_routeOf I (p1 := 0) (by decide) (z_nn_of rfl (And.intro (fun h => f30 hp 0 (Or.inl ⟨rfl, h1, h⟩)) (fun h => f30 hp 1 (Or.inr ⟨rfl, fun _ => h⟩)))))))
theorem u_X11_changeKey {Post : Int32 → z_Mem → Prop} (I : y_CI n (c + 6) (s + 32) M M) (k : ∀ x M2, cF_X1_canChangeKey (n + 31) M = (x, M2) → ¬ x = 0 → ∀ r M1, y_D n c s M M1 → M1 = z_sfi M 142 (n + 31) (z_fi M 142 (n + 31) + 1) → Post r M1) (kS : ∀ x M2, cF_X1_canChangeKey (n + 31) M = (x, M2) → x = 0 → ∀ M1, y_DX n c s M M1 → PX "java/lang/IllegalStateException" M1) : P_X11_changeKey n M Post PX := by
  refine z_nn_of (s_1411_0 I.1) (cS_X1_canChangeKey (Q := fun _ M2 => M2 = M) (t_X1_canChangeKey I (fun x2 => rfl)) (fun x2 M2 e u => ?_))
  have u0 := u
  rw [e]
  refine u_rs I (fun h => kS x2 M2 u h) (fun h => z_nn_of (s_1411_0 I.1) ?_)
  intro M8 e8
  have I8 := r_sfi I e8 (by decide +kernel)
  exact z_nn_of (s_1411_0 I8.1) (k x2 M2 u h _ M8 (y_Dof (r_w I8 (by omega) (by omega))) e8)
theorem u_X11_close {Post : z_Mem → Prop} (I : y_CI n (c + 6) (s + 32) M M) (k : z_fi M 135 (n + 31) = 2 → ∀ M1, y_D n c s M M1 → cF_X1_beginClosing (n + 31) M = M1 → Post M1) (kS : ¬ z_fi M 135 (n + 31) = 2 → ∀ M1, y_DX n c s M M1 → PX "java/lang/IllegalStateException" M1) : P_X11_close n M Post PX := by
  refine z_nn_of (s_1411_0 I.1) (And.intro (fun h2 => u_rs I (fun e => absurd e (by decide)) (fun _ => z_nn_of (s_1411_0 I.1) ?_)) (fun h2 => u_rs I (fun _ => kS h2) (fun h => absurd rfl h)))
  exact cS_X1_beginClosing (Q := fun M1 => y_CI n c s M M1) (t_X1_beginClosing (c := c) (s := s) (r_w I (by omega) (by omega)) (by rw [h2]; decide) (fun M1 I1 => I1)) (fun M1 I1 e => k h2 M1 (y_Dof I1) e)
end UF
