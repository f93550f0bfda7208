/-! ===== THE REFERENCE: its face, the rest ===== -/
section RGB
variable {n t s q z : Nat} {M0 M M1 M2 : z_Mem} {p1 p2 p3 : Int32}
theorem t_fo23 {x1 x2 : Int32} {Post : Int32 → z_Mem → Prop} (h1 : 0 ≤ x1.toInt ∧ x1.toInt ≤ 1) (h2 : x2.toInt ≤ 30) (k : ∀ r M1, rf_J n t s q z M0 M1 → Post r M1) : ∀ (m : Nat) (x3 : Int32) (M : z_Mem), (30 - x3.toInt).toNat < m → 0 ≤ x3.toInt → rf_J n t s q z M0 M → P_X12_foreign_23 (n + 40) Post m x1 x2 x3 M := by
  have hx : x1.toNatClampNeg < 2 := i_natlt (by omega) (by omega)
  have hv : ∀ {L : Nat}, L = 2 → vp_in x1 L := fun h => vp_of (L := 2) h (by omega) (by omega)
  intro m
  induction m with
  | zero => intro x3 M h; exact absurd h (Nat.not_lt_zero _)
  | succ m ih =>
    intro x3 M hm h0 J
    refine And.intro (fun _ => k _ _ J) (fun c => ?_)
    have c' := i_nle c rfl rfl
    have bq := a_51 J x1.toNatClampNeg
    have br := a_43 J x1.toNatClampNeg
    refine z_nn_of (s_1547_40 J.1) (And.intro (hv (s_l51 J.1)) (z_nn_of (s_1539_40 J.1) (And.intro (hv (s_l43 J.1)) (And.intro (fun _ => k _ _ J) (fun c2 => ?_)))))
    have c2' := i_nle c2 rfl rfl
    have hpn : x1.toInt = (x1.toNatClampNeg : Int) := (i_nat2 h1.1).symm
    have e1 := i_pq (x3 := z_ai M (n + 51) x1.toNatClampNeg) (k := (z_ai M (n + 51) x1.toNatClampNeg).toInt.toNat) hpn (by omega) hx (by omega)
    have N := i_nat e1
    have v1 : vp_in ((30 * x1) + (z_ai M (n + 51) x1.toNatClampNeg)) (z_ln M (n + 50)) := t_posq e1 (by omega) (s_l50 J.1)
    clear e1
    refine z_nn_of (s_1547_40 J.1) (And.intro (hv (s_l51 J.1)) (z_nn_of (s_1546_40 J.1) (And.intro v1 ?_)))
    intro M15 e15
    rw [N] at e15
    clear N v1
    have J15 := w_50 (p := x1.toNatClampNeg) J e15 (by decide) (by decide) hx (by omega) rfl
    have r51 : z_ai M15 (n + 51) = z_ai M (n + 51) := by rw [e15, rf_na (by decide)]
    have r50 : z_ai M15 (n + 50) (30 * x1.toNatClampNeg + (z_ai M15 (n + 51) x1.toNatClampNeg).toInt.toNat) = -1 := by rw [r51, e15, rf_ea, if_pos rfl]
    refine z_nn_of (s_1547_40 J15.1) (And.intro (hv (s_l51 J15.1)) (And.intro (hv (s_l51 J15.1)) ?_))
    intro M20 e20
    have tv : (z_ai M15 (n + 51) x1.toNatClampNeg + 1).toInt = (z_ai M15 (n + 51) x1.toNatClampNeg).toInt + 1 := i_addE rfl (show (1 : Int32).toInt = 1 from rfl) (by rw [r51]; omega) (by rw [r51]; omega)
    have J20 := w_51f J15 e20 hx tv (by rw [tv, r51]; omega) r50
    clear tv
    intro y ey
    have ty : y.toInt = x3.toInt + 1 := by rw [ey]; exact i_add1 (by omega) (by omega)
    exact ih y M20 (by omega) (by omega) J20
theorem t_X12_foreign {Post : Int32 → z_Mem → Prop} (J : rf_J n t s q z M0 M) (k : ∀ r M1, rf_J n t s q z M1 M1 → rf_K3 n M M1 → Post r M1) : P_X12_foreign (n + 40) p1 p2 M Post := by
  refine t_isPath J (fun x1 hx1 => t_in J (show (1 : Int32).toInt = 1 from rfl) (show (30 : Int32).toInt = 30 from rfl) (fun x2 hx2 => t_X12_goes J (fun r Mg h1 h2 K p e9 eq Jg => And.intro (fun _ => k _ Mg Jg K) (fun c => ?_))))
  have hr : r = 1 := h1.elim id (fun h => absurd h c)
  have hp := rf_bt hx1 (h2 hr).1
  have hm := rf_bt hx2 (h2 hr).2.1
  exact ⟨_, t_fo23 hp hm.2 (fun r M1 J1 => k r M1 (rf_rf J1) (rf_K3tr K (rf_K3w J1.2.2))) _ 0 Mg (Nat.lt_succ_self _) (by decide) Jg⟩
theorem t_go2 {Post : Int32 → z_Mem → Prop} (J : rf_J n t s q z M0 M) (k : ∀ r, Post r M) : ∀ (m : Nat) (x1 x2 : Int32), (200 - x2.toInt).toNat < m → 0 ≤ x1.toInt → x1.toInt ≤ 3 → 0 ≤ x2.toInt → P_X12_gotOf_2 (n + 40) Post m x1 x2 M := by
  have T200 : (200 : Int32).toInt = 200 := rfl
  intro m
  induction m with
  | zero => intro x1 x2 h; exact absurd h (Nat.not_lt_zero _)
  | succ m ih =>
    intro x1 x2 hm h1 h2 h0
    refine And.intro (fun _ => k _) (fun c => ?_)
    have c' := i_nle c T200 rfl
    refine z_nn_of (s_1570_40 J.1) (And.intro (vp_of (L := 800) (s_l64 J.1) (by rw [i_addE (i_mulE T200 rfl (by omega) (by omega)) rfl (by omega) (by omega)]; omega) (by rw [i_addE (i_mulE T200 rfl (by omega) (by omega)) rfl (by omega) (by omega)]; omega)) (And.intro (fun _ => k _) (fun _ => ?_)))
    intro y ey
    have ty : y.toInt = x2.toInt + 1 := by rw [ey]; exact i_add1 (by omega) (by omega)
    exact ih x1 y (by omega) h1 h2 (by omega)
theorem t_X12_gotOf {Post : Int32 → z_Mem → Prop} (J : rf_J n t s q z M0 M) (h : 0 ≤ p1.toInt ∧ p1.toInt ≤ 3) (k : ∀ r, Post r M) : P_X12_gotOf (n + 40) p1 M Post :=
  ⟨_, t_go2 J k _ p1 0 (Nat.lt_succ_self _) h.1 h.2 (by decide)⟩
theorem t_X12_read {Post : Int32 → z_Mem → Prop} (J : rf_J n t (s + 1) (q + 1) z M0 M) (k : ∀ r M1, rf_J n t s q z M1 M1 → rf_K3 n M M1 → Post r M1) : P_X12_read (n + 40) p1 p2 M Post := by
  refine t_isStream J (fun x1 hx1 => t_in J rfl rfl (fun x2 hx2 => t_X12_goes J (fun r Mg h1 h2 K p e9 eq Jg => ?_)))
  have kg : ∀ r M1, rf_J n t (s + 1) (q + 1) z Mg M1 → Post r M1 := fun r M1 J1 => k r M1 (rf_rf (rf_w J1 (by omega) (by omega) (by omega) (by omega))) (rf_K3tr K (rf_K3w J1.2.2))
  refine And.intro (fun _ => kg _ Mg Jg) (fun c => ?_)
  have hr : r = 1 := h1.elim id (fun h => absurd h c)
  have hp := rf_bt hx1 (h2 hr).1
  have hv : ∀ {L : Nat}, L = 4 → vp_in p1 L := fun h => vp_of (L := 4) h (by omega) (by omega)
  have f45 : ∀ v : Int32, P_X12_read_45 (n + 40) Post p1 v Mg := fun v => by
    refine z_nn_of (s_1571_40 Jg.1) (And.intro (hv (s_l65 Jg.1)) (And.intro (hv (s_l65 Jg.1)) ?_))
    intro M5 e5
    have J5 := w_sai Jg e5 (by decide +kernel)
    refine And.intro (fun _ => kg _ M5 J5) (fun _ => And.intro (fun _ => And.intro (fun _ => kg _ M5 J5) (fun c5 => ?_)) (fun _ => kg _ M5 J5))
    have b := f_1575 J5
    have c5' := i_ne c5 rfl (show (-1 : Int32).toInt = -1 from rfl)
    exact t_X12_acknowledges J5 (by omega) (fun M11 _ J11 => k _ M11 (rf_rf J11) (rf_K3tr K (rf_K3w J11.2.2)))
  refine t_X12_gotOf Jg hp (fun x16 => z_nn_of (s_1571_40 Jg.1) (And.intro (hv (s_l65 Jg.1)) ?_))
  intro x20 _
  exact And.intro (fun _ => f45 _) (fun _ => f45 _)
theorem t_ls12 {Post : z_Mem → Prop} {Ms : z_Mem} (k : ∀ M1, rf_J n t s q z Ms M1 → Post M1) : ∀ (m : Nat) (x1 : Int32) (M : z_Mem), (400 - x1.toInt).toNat < m → 0 ≤ x1.toInt → rf_J n t s q z Ms (z_sfi M 1576 (n + 40) 0) → P_X12_loseState_12 (n + 40) Post m x1 M := by
  have T400 : (400 : Int32).toInt = 400 := rfl
  intro m
  induction m with
  | zero => intro x1 M h; exact absurd h (Nat.not_lt_zero _)
  | succ m ih =>
    intro x1 M hm h0 J
    have S : y_S n M := J.1
    refine And.intro (fun _ => ?_) (fun c => ?_)
    · intro M2 e2
      have J2 : rf_J n t s q z Ms (z_sfi M2 1576 (n + 40) 0) := w_sfi J (by rw [e2]; exact rf_comm (by decide)) (by decide +kernel)
      intro M3 e3
      have J3 : rf_J n t s q z Ms (z_sfi M3 1576 (n + 40) 0) := w_sfi J2 (by rw [e3]; exact rf_comm (by decide)) (by decide +kernel)
      intro M4 e4
      have J4 : rf_J n t s q z Ms (z_sfi M4 1576 (n + 40) 0) := w_sfi J3 (by rw [e4]; exact rf_comm (by decide)) (by decide +kernel)
      intro M5 e5
      have J5 : rf_J n t s q z Ms (z_sfi M5 1576 (n + 40) 0) := w_1575 J4 (by rw [e5]; exact rf_comm (by decide)) (by decide) (by decide)
      intro M6 e6
      rw [e6]
      exact k _ J5
    · have c' := i_nle c T400 rfl
      refine z_nn_of (s_1569_40 S) (And.intro (vp_of (L := 400) (s_l63 S) h0 (by omega)) ?_)
      intro M10 e10 y ey
      have ty : y.toInt = x1.toInt + 1 := by rw [ey]; exact i_add1 (by omega) (by omega)
      exact ih y M10 (by omega) (by omega) (w_63z J (by rw [e10]; rfl) (by rw [rf_ef]; decide))
theorem t_X12_loseState {Post : z_Mem → Prop} (J : rf_J n t s q z M0 M) (k : ∀ M1, rf_J n t s q z M1 M1 → rf_K3 n M M1 → Post M1) : P_X12_loseState (n + 40) M Post := by
  intro M12 e12
  have J12 := w_1630 J e12
  intro M13 e13
  have J13 := w_sfi J12 e13 (by decide +kernel)
  have JS := w_1576 (M1 := z_sfi M13 1576 (n + 40) 0) J13 rfl (fun h => absurd h (by decide))
  exact ⟨_, t_ls12 (Ms := M12) (fun M1 J1 => k M1 (rf_rf J1) (rf_K3tr (M := M12) (by rw [e12]; exact rf_K3f (by decide) (by decide)) (rf_K3w J1.2.2))) _ 0 M13 (Nat.lt_succ_self _) (by decide) JS⟩
theorem t_X12_connect {Post : z_Mem → Prop} (J : rf_J n (t + 1) (s + 1) (q + 1) z M0 M) (k : ∀ M1, rf_J n t s q z M1 M1 → rf_K3 n M M1 → Post M1) : P_X12_connect (n + 40) p1 M Post := by
  refine t_in J (show (-1 : Int32).toInt = -1 from rfl) (show (9 : Int32).toInt = 9 from rfl) (fun x8 h8 => ?_)
  have f20 : ∀ v : Int32, P_X12_connect_20 (n + 40) Post p1 (some (n + 40)) x8 v M := fun v => by
    refine z_nn_of rfl (t_X12_goes J (fun r Mg h1 h2 K p e9 eq Jg => And.intro (fun _ => k Mg (rf_w Jg (by omega) (by omega) (by omega) (by omega)) K) (fun c => ?_)))
    have hr : r = 1 := h1.elim id (fun h => absurd h c)
    have hp := rf_bt h8 (h2 hr).1
    intro M4 e4 M5 e5 M6 e6
    have JA := w_1581 (M1 := z_sfi Mg 1581 (n + 40) 10) Jg rfl (by decide) (by decide)
    have JB := w_1578 (M1 := z_sfi (z_sfi Mg 1581 (n + 40) 10) 1578 (n + 40) p1) JA rfl hp.1 hp.2
    have JC := w_1577c (v := 1) (M1 := z_sfi (z_sfi (z_sfi Mg 1581 (n + 40) 10) 1578 (n + 40) p1) 1577 (n + 40) 1) JB rfl (by rw [rf_nf (by decide), rf_ef]; decide)
    have eM : M6 = z_sfi (z_sfi (z_sfi Mg 1581 (n + 40) 10) 1578 (n + 40) p1) 1577 (n + 40) 1 := by
      rw [e6, e5, e4, rf_comm (show (1577 : Nat) ≠ 1578 by decide), rf_comm (show (1577 : Nat) ≠ 1581 by decide), rf_comm (show (1578 : Nat) ≠ 1581 by decide)]
    rw [← eM] at JC
    exact t_X12_saysHello JC (fun M7 J7 => k M7 (rf_rf J7) (rf_K3tr K (rf_K3w J7.2.2)))
  exact And.intro (fun _ => f20 1) (fun _ => f20 0)
theorem t_X12_write {Post : Int32 → z_Mem → Prop} (J : rf_J n t s q z M0 M) (k : ∀ r M1, rf_J n t s q z M1 M1 → rf_KC n M M1 → Post r M1) : P_X12_write (n + 40) p1 p2 M Post := by
  refine t_isStream J (fun x12 h12 => t_in J (show (1 : Int32).toInt = 1 from rfl) (show (200 : Int32).toInt = 200 from rfl) (fun x13 h13 => ?_))
  have f49 : ∀ v : Int32, (v = 1 → (0 ≤ p1.toInt ∧ p1.toInt ≤ 3) → (1 ≤ p2.toInt ∧ p2.toInt ≤ 200) → (z_ai M (n + 66) p1.toNatClampNeg).toInt + p2.toInt ≤ 200) → (v = 1 ∨ v = 0) → P_X12_write_49 (n + 40) Post p1 p2 (some (n + 40)) x12 x13 v M := fun v hv1 hv0 => by
    refine z_nn_of rfl (t_X12_goes J (fun r Mg h1 h2 K p e9 eq Jg => And.intro (fun _ => k _ Mg Jg K.1) (fun c => ?_)))
    have hr : r = 1 := h1.elim id (fun h => absurd h c)
    have hq := h2 hr
    have hp := rf_bt h12 hq.1
    have hm := rf_bt h13 hq.2.1
    have hv' : v = 1 := hv0.elim id (fun h => absurd h hq.2.2)
    have hw := hv1 hv' hp hm
    have g66 : z_ai Mg (n + 66) = z_ai M (n + 66) := K.2.1 66 (by decide)
    have hv : ∀ {L : Nat}, L = 4 → vp_in p1 L := fun h => vp_of (L := 4) h (by omega) (by omega)
    refine z_nn_of (s_1586_40 Jg.1) (And.intro (hv (s_l66 Jg.1)) (And.intro (hv (s_l66 Jg.1)) ?_))
    intro M8 e8
    have b := a_66 Jg p1.toNatClampNeg
    have bs := rf_sw Jg p1.toNatClampNeg (i_natlt (by omega) (by omega))
    rw [← g66] at hw
    have tv : (z_ai Mg (n + 66) p1.toNatClampNeg + p2).toInt = (z_ai Mg (n + 66) p1.toNatClampNeg).toInt + p2.toInt := i_addE rfl rfl (by omega) (by omega)
    have J8 := w_66 Jg e8 (by rw [tv]; omega) (by rw [tv]; omega) (by rw [tv]; omega)
    exact z_nn_of (s_1586_40 J8.1) (And.intro (hv (s_l66 J8.1)) (k _ M8 J8 (rf_KCtr K.1 (by rw [e8]; exact rf_KCa (by decide) (by decide)))))
  refine And.intro (fun _ => f49 0 (fun h => absurd h (by decide)) (Or.inr rfl)) (fun c => t_in J (show (1 : Int32).toInt = 1 from rfl) (show (200 : Int32).toInt = 200 from rfl) (fun x15 h15 => And.intro (fun _ => f49 0 (fun h => absurd h (by decide)) (Or.inr rfl)) (fun c2 => ?_)))
  have hp := rf_bt h12 c
  have hm := rf_bt h15 c2
  have b := a_66 J p1.toNatClampNeg
  refine z_nn_of (s_1586_40 J.1) (And.intro (vp_of (L := 4) (s_l66 J.1) (by omega) (by omega)) (And.intro (fun _ => f49 0 (fun h => absurd h (by decide)) (Or.inr rfl)) (fun c3 => f49 1 (fun _ _ _ => ?_) (Or.inl rfl))))
  have c3' := i_nlt c3 (show (200 : Int32).toInt = 200 from rfl) (i_addE (x := z_ai M (n + 66) p1.toNatClampNeg) (y := p2) rfl rfl (by omega) (by omega))
  omega
theorem t_X12_check {Post : z_Mem → Prop} (J : rf_J n (t + 1) (s + 1) (q + 1) z M0 M) (k : ∀ M1, rf_J n t s q z M1 M1 → rf_K3 n M M1 → Post M1) : P_X12_check (n + 40) p1 M Post := by
  refine t_isPath J (fun x1 hx1 => ?_)
  have f : ∀ v : Int32, P_X12_goes (n + 40) x1 v 1 M fun x_7 M_7 => (((x_7 = 0 → Post M_7) ∧ (¬ x_7 = 0 → P_X12_puts (n + 40) p1 3 0 M_7 fun M_9 => (Post M_9)))) := fun v =>
    t_X12_goes J (fun r Mg h1 h2 K p e9 eq Jg => And.intro (fun _ => k Mg (rf_w Jg (by omega) (by omega) (by omega) (by omega)) K) (fun c => by
      have hr : r = 1 := h1.elim id (fun h => absurd h c)
      have hp := rf_bt hx1 (h2 hr).1
      exact t_X12_puts Jg hp (by decide) (fun h => absurd h (by decide)) (fun M9 _ J9 => k M9 (rf_rf J9) (rf_K3tr K (rf_K3w J9.2.2)))))
  exact And.intro (fun _ => f 1) (fun _ => f 0)
theorem t_X12_use {Post : Int32 → z_Mem → Prop} (J : rf_J n t s q z M0 M) (k : ∀ r M1, rf_J n t s q z M1 M1 → rf_K3 n M M1 → Post r M1) : P_X12_use (n + 40) p1 M Post := by
  refine t_in J (show (0 : Int32).toInt = 0 from rfl) (show (2 : Int32).toInt = 2 from rfl) (fun x12 h12 => ?_)
  have f45 : ∀ v : Int32, P_X12_use_45 (n + 40) Post p1 (some (n + 40)) x12 v M := fun v => by
    refine z_nn_of rfl (t_X12_goes J (fun r Mg h1 h2 K p e9 eq Jg => And.intro (fun _ => k _ Mg Jg K) (fun c => ?_)))
    intro x5 _ M6 e6
    have J6 := w_sfi Jg e6 (by decide +kernel)
    exact k _ M6 (rf_rf J6) (rf_K3tr K (rf_K3w J6.2.2))
  have hv : ∀ i : Int32, i.toInt = 0 ∨ i.toInt = 1 → vp_in i (z_ln M (n + 92)) := fun i hi => vp_of (L := 2) (s_l92 J.1) (by omega) (by omega)
  have f27 : P_X12_use_27 (n + 40) Post p1 (some (n + 40)) x12 M := And.intro (fun _ => f45 1) (fun _ => z_nn_of (s_1615_40 J.1) (And.intro (hv 1 (Or.inr rfl)) (And.intro (fun _ => f45 0) (fun _ => f45 1))))
  exact And.intro (fun _ => f45 0) (fun _ => And.intro (fun _ => f27) (fun _ => z_nn_of (s_1615_40 J.1) (And.intro (hv 0 (Or.inl rfl)) (And.intro (fun _ => f45 0) (fun _ => f27)))))
theorem t_ck4 {Post : Int32 → z_Mem → Prop} (J : rf_J n t s q z M0 M) (k : ∀ r M1, rf_J n t s q z M1 M1 → rf_K3 n M M1 → Post r M1) : ∀ (m : Nat) (x1 x2 : Int32), (400 - x2.toInt).toNat < m → 0 ≤ x2.toInt → P_X12_changeKey_4 (n + 40) Post m x1 x2 M := by
  have b := f_1606 J
  have f79 : ∀ v : Int32, P_X12_changeKey_79 (n + 40) Post (some (n + 40)) v M := fun v => by
    refine z_nn_of rfl (t_X12_goes J (fun r Mg h1 h2 K p e9 eq Jg => And.intro (fun _ => k _ Mg Jg K) (fun c => ?_)))
    intro M6 e6
    have J6 := w_sfi Jg e6 (by decide +kernel)
    exact k _ M6 (rf_rf J6) (rf_K3tr K (rf_K3w J6.2.2))
  intro m
  induction m with
  | zero => intro x1 x2 h; exact absurd h (Nat.not_lt_zero _)
  | succ m ih =>
    intro x1 x2 hm h0
    refine And.intro (fun _ => And.intro (fun _ => And.intro (fun _ => f79 0) (fun _ => f79 1)) (fun _ => f79 0)) (fun c => ?_)
    have c' := i_nle c rfl rfl
    have ny : ∀ y, y = x2 + 1 → y.toInt = x2.toInt + 1 := fun y ey => by rw [ey]; exact i_add1 (by omega) (by omega)
    have hv : ∀ {L : Nat}, L = 400 → vp_in x2 L := fun h => vp_of (L := 400) h h0 (by omega)
    have go : ∀ v y : Int32, y = x2 + 1 → P_X12_changeKey_4 (n + 40) Post m v y M := fun v y ey => by
      have ty := ny y ey
      exact ih v y (by omega) (by omega)
    have f49 : P_X12_changeKey_49 (n + 40) Post (fun q0 q1 qM => P_X12_changeKey_4 (n + 40) Post m q0 q1 qM) x2 M := fun y ey => go 1 y ey
    have f53 : P_X12_changeKey_53 (n + 40) Post (fun q0 q1 qM => P_X12_changeKey_4 (n + 40) Post m q0 q1 qM) x2 M := fun y ey => go 0 y ey
    exact And.intro (fun _ => z_nn_of (s_1600_40 J.1) (And.intro (hv (s_l78 J.1)) (And.intro (fun _ => z_nn_of (s_1598_40 J.1) (And.intro (hv (s_l76 J.1)) (And.intro (fun _ => f49) (fun _ => z_nn_of (s_1598_40 J.1) (And.intro (hv (s_l76 J.1)) (And.intro (fun _ => f49) (fun _ => f53))))))) (fun _ => f53)))) (fun _ => f49)
theorem t_X12_changeKey {Post : Int32 → z_Mem → Prop} (J : rf_J n t s q z M0 M) (k : ∀ r M1, rf_J n t s q z M1 M1 → rf_K3 n M M1 → Post r M1) : P_X12_changeKey (n + 40) M Post :=
  ⟨_, t_ck4 J k _ 0 0 (Nat.lt_succ_self _) (by decide)⟩
theorem t_X12_close {Post : z_Mem → Prop} (J : rf_J n (t + 1) (s + 1) (q + 1) z M0 M) (k : ∀ M1, rf_J n t s q z M1 M1 → rf_K3 n M M1 → Post M1) : P_X12_close (n + 40) M Post := by
  have f14 : ∀ v : Int32, P_X12_close_14 (n + 40) Post (some (n + 40)) v M := fun v => by
    refine z_nn_of rfl (t_X12_goes J (fun r Mg h1 h2 K p e9 eq Jg => And.intro (fun _ => k Mg (rf_w Jg (by omega) (by omega) (by omega) (by omega)) K) (fun c => ?_)))
    have f36 : ∀ u : Int32, (0 ≤ u.toInt ∧ u.toInt ≤ 1) → P_X12_close_36 (n + 40) Post (some (n + 40)) u Mg := fun u hu => by
      refine z_nn_of rfl (t_X12_puts Jg hu (by decide) (fun h => absurd h (by decide)) (fun M1 _ J1 => ?_))
      intro M3 e3
      have J3 := w_1577 J1 e3 (by decide)
      intro M5 e5
      have J5 := w_sfi J3 e5 (by decide +kernel)
      exact k M5 (rf_rf J5) (rf_K3tr K (rf_K3w J5.2.2))
    exact And.intro (fun _ => f36 1 (by decide)) (fun _ => f36 0 (by decide))
  exact And.intro (fun _ => f14 1) (fun _ => f14 0)
end RGB
