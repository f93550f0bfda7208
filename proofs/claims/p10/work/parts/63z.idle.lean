/-! ===== THE REFERENCE: while the client is idle nothing is under way ===== -/
def rf_Z (n : Nat) (M : z_Mem) : Prop := z_fi M 1577 (n + 40) = 0 ∧ z_fi M 1551 (n + 40) = 0 ∧ z_fi M 1559 (n + 40) = 0 ∧ ¬ z_fi M 1562 (n + 40) = 1
def rf_ZQ (n : Nat) (M : z_Mem) : Prop := z_fi M 1577 (n + 40) = 0 → rf_Z n M
def rf_ZI (n : Nat) (M M1 : z_Mem) : Prop := z_fi M1 1577 (n + 40) = 0 ↔ z_fi M 1577 (n + 40) = 0
section RZ
variable {al : Prop} {n t s q z : Nat} {M0 M M1 M2 Mg : z_Mem} {p1 p2 p3 p4 p5 : Int32}
theorem rf_ZF (Z : rf_Z n M) (F : rf_F4 n M M1) : rf_Z n M1 := ⟨(F 1577 (by decide)).trans Z.1, (F 1551 (by decide)).trans Z.2.1, (F 1559 (by decide)).trans Z.2.2.1, fun h => Z.2.2.2 ((F 1562 (by decide)).symm.trans h)⟩
theorem rf_ZIF (F : rf_F4 n M M1) : rf_ZI n M M1 := by unfold rf_ZI; rw [F 1577 (by decide)]
theorem rf_ZQF (F : rf_F4 n M M1) (Q : rf_ZQ n M) : rf_ZQ n M1 := fun h => rf_ZF (Q ((F 1577 (by decide)).symm.trans h)) F
theorem rf_ZItr (h : rf_ZI n M M1) (k : rf_ZI n M1 M2) : rf_ZI n M M2 := Iff.trans k h
theorem rf_ZIrf : rf_ZI n M M := Iff.rfl
theorem rf_al {al1 : Prop} (J : rf_J al n t s q z M0 M) (h : al1 → ¬ z_fi M 1577 (n + 40) = 0) : rf_J al1 n t s q z M0 M := by
  obtain ⟨S, ⟨c1, c2, c3, c4, c5, c6, c7, c8, c9, c10, c11, c12⟩, K⟩ := J
  exact ⟨S, ⟨c1, c2, c3, c4, c5, c6, c7, c8, ⟨⟨c9.1.1, h⟩, c9.2⟩, c10, c11, c12⟩, K⟩
theorem rf_no (J : rf_J al n t s q z M0 M) : rf_J False n t s q z M0 M := rf_al J (fun h => h.elim)
theorem rf_av (J : rf_J True n t s q z M0 M) : ¬ z_fi M 1577 (n + 40) = 0 := J.2.1.2.2.2.2.2.2.2.2.1.1.2 trivial
theorem rf_ZIa (h : ¬ z_fi M 1577 (n + 40) = 0) (J : rf_J True n t s q z M0 M1) : rf_ZI n M M1 := ⟨fun h1 => absurd h1 (rf_av J), fun h1 => absurd h1 h⟩
theorem rf_ZQa (J : rf_J True n t s q z M0 M1) : rf_ZQ n M1 := fun h1 => absurd h1 (rf_av J)
theorem rf_ZIz (h : z_fi M 1577 (n + 40) = 0) (Z : rf_Z n M1) : rf_ZI n M M1 := ⟨fun _ => h, fun _ => Z.1⟩
theorem t_id_sendsAll {Post : z_Mem → Prop} (J : rf_J al n t s q z M0 M) (Z : rf_Z n M) (k : ∀ M1, rf_J al n t s q z M0 M1 → z_fi M1 = z_fi M → Post M1) : P_X12_sendsAll (n + 40) M Post := by
  refine z_nn_of (s_1628_40 J.1) (And.intro (vp_of (L := 2) (s_l105 J.1) (by decide) (by decide)) ?_)
  intro M18 e18
  have J18 := w_sai J e18 (by decide +kernel)
  refine z_nn_of (s_1628_40 J18.1) (And.intro (vp_of (L := 2) (s_l105 J18.1) (by decide) (by decide)) ?_)
  intro M22 e22
  have J22 := w_sai J18 e22 (by decide +kernel)
  have f : z_fi M22 = z_fi M := by rw [e22, e18]; rfl
  have hz : z_fi M22 1577 (n + 40) = 0 := by rw [f]; exact Z.1
  have f43 : P_X12_sendsAll_43 (n + 40) Post 0 M22 := ⟨1, And.intro (fun _ => k M22 J22 f) (fun h => absurd rfl h)⟩
  exact And.intro (fun h => absurd (hz.symm.trans h) (by decide)) (fun _ => And.intro (fun h => absurd (hz.symm.trans h) (by decide)) (fun _ => f43))
theorem t_id_passes {Post : z_Mem → Prop} (J : rf_J al n (t + 60) (s + 60) (q + 60) z M0 M) (hn : (z_fi M 1536 (n + 40)).toInt < 2000) (Z : rf_Z n M) (k : ∀ M1, rf_J al n (t + 60) (s + 60) (q + 60) z M1 M1 → rf_K2 n (z_sfi M 1536 (n + 40) (z_fi M 1536 (n + 40) + 1)) M1 → rf_Z n M1 → Post M1) : P_X12_passes (n + 40) M Post := by
  intro M69 e69
  have b := f_1536 J
  have tv : (z_fi M 1536 (n + 40) + 1).toInt = (z_fi M 1536 (n + 40)).toInt + 1 := i_addE rfl (show (1 : Int32).toInt = 1 from rfl) (by omega) (by omega)
  have Jw := w_1536 J e69 tv (by rw [tv]; omega)
  clear tv
  have J69 : rf_J al n (t + 60) (s + 60) (q + 60) z M69 M69 := rf_w Jw (by omega) (by omega) (by omega) (by omega)
  have Z69 : rf_Z n M69 := rf_ZF Z (by rw [e69]; exact rf_F4f (by decide))
  have hC := rf_C11p J69
  have h51 : (z_fi M69 1551 (n + 40)).toInt = 0 := by rw [Z69.2.1]; rfl
  have zz : ∀ v : Int32, ¬ v = 0 → ¬ z_fi M69 1577 (n + 40) = v := fun v hv h => hv (h.symm.trans Z69.1)
  have f235 : P_X12_passes_235 (n + 40) Post (some (n + 40)) M69 := by
    refine z_nn_of rfl ?_
    intro M5 e5
    rw [rf_same rfl] at e5
    rw [e5]
    exact t_id_sendsAll J69 Z69 (fun M6 J6 f6 => t_X12_leaves J6 (by decide) (fun M7 J7 K7 => t_X12_leaves J7 (by decide) (fun M8 J8 K8 => k M8 J8 (by rw [← e69]; exact rf_K2tr (rf_K2w J6.2.2) (rf_K2tr K7.1 K8.1)) (rf_ZF Z69 (rf_F4tr (rf_F4e f6) (rf_F4tr K7.2 K8.2))))))
  have f134 : P_X12_passes_134 (n + 40) Post M69 := And.intro (fun h => absurd h (zz 1 (by decide))) (fun _ => And.intro (fun h => absurd h (zz 2 (by decide))) (fun _ => And.intro (fun h => absurd h (zz 1 (by decide))) (fun _ => And.intro (fun h => absurd h (zz 3 (by decide))) (fun _ => f235))))
  refine ⟨1, And.intro (fun _ => ?_) (fun c => ?_)⟩
  · intro x57 e57
    refine ⟨1, And.intro (fun _ => And.intro (fun h => absurd h Z69.2.2.2) (fun _ => f134)) (fun c => absurd (show x57 ≤ 0 by rw [e57, Z69.2.2.1]; decide) c)⟩
  · have c' := i_nle c rfl (show (0 : Int32).toInt = 0 from rfl)
    omega
theorem t_pas {Post : z_Mem → Prop} (J : rf_J False n (t + 60) (s + 60) (q + 60) z M0 M) (hn : (z_fi M 1536 (n + 40)).toInt < 2000) (Q : rf_ZQ n M) (k : ∀ M1, rf_J False n (t + 60) (s + 60) (q + 60) z M1 M1 → rf_K2 n (z_sfi M 1536 (n + 40) (z_fi M 1536 (n + 40) + 1)) M1 → rf_ZI n M M1 → rf_ZQ n M1 → Post M1) : P_X12_passes (n + 40) M Post := by
  by_cases h : z_fi M 1577 (n + 40) = 0
  · exact t_id_passes J hn (Q h) (fun M1 J1 K1 Z1 => k M1 J1 K1 (rf_ZIz h Z1) (fun _ => Z1))
  · exact t_X12_passes (al := True) (rf_al J (fun _ => h)) hn (fun M1 J1 K1 => k M1 (rf_no J1) K1 (rf_ZIa h J1) (rf_ZQa J1))
theorem t_ti36z {x1 : Int32} {Ms : z_Mem} {Post : Int32 → z_Mem → Prop} (h50 : x1.toInt ≤ 50) (k : ∀ r M1, rf_J False n (t + 60) (s + 60) (q + 60) z M1 M1 → rf_KC n Ms M1 → rf_ZI n Ms M1 → rf_ZQ n M1 → Post r M1) : ∀ (m : Nat) (x2 : Int32) (M : z_Mem), (50 - x2.toInt).toNat < m → 0 ≤ x2.toInt → (z_fi M 1536 (n + 40)).toInt + (x1.toInt - x2.toInt) ≤ 2000 → rf_KC n Ms M → rf_ZI n Ms M → rf_ZQ n M → rf_J False n (t + 60) (s + 60) (q + 60) z M M → P_X12_tick_36 (n + 40) Post m x1 x2 M := by
  intro m
  induction m with
  | zero => intro x2 M h; exact absurd h (Nat.not_lt_zero _)
  | succ m ih =>
    intro x2 M hm h0 hn K ZI ZQ J
    refine And.intro (fun _ => k _ M J K ZI ZQ) (fun c => ?_)
    have c' := i_nle c rfl rfl
    have b := f_1536 J
    refine t_pas J (by omega) ZQ (fun M3 J3 K3 ZI3 ZQ3 => ?_)
    have kn : z_fi M3 1536 (n + 40) = z_fi M 1536 (n + 40) + 1 := by
      rw [K3.2.2.2.2.2.2.2.2.2.2 1536 (by decide), rf_ef]
    have tn : (z_fi M3 1536 (n + 40)).toInt = (z_fi M 1536 (n + 40)).toInt + 1 := by rw [kn]; exact i_addE rfl (show (1 : Int32).toInt = 1 from rfl) (by omega) (by omega)
    obtain ⟨a1, a2, a3, a4, a5, a6, a7, a8, a9, a10, a11⟩ := K3
    intro y ey
    have ty : y.toInt = x2.toInt + 1 := by rw [ey]; exact i_add1 (by omega) (by omega)
    exact ih y M3 (by omega) (by omega) (by omega) (rf_KCtr K (rf_KCtr (rf_KCf (M := M) (g := 1536) (v := z_fi M 1536 (n + 40) + 1) (by decide)) ⟨a1, a2, a3, a4, a5, a6, a7, a8, a9⟩)) (rf_ZItr ZI ZI3) ZQ3 J3
theorem t_X12_tickz {Post : Int32 → z_Mem → Prop} (J : rf_J False n (t + 60) (s + 60) (q + 60) z M0 M) (Q : rf_ZQ n M) (k : ∀ r M1, rf_J False n (t + 60) (s + 60) (q + 60) z M1 M1 → rf_KC n M M1 → rf_ZI n M M1 → rf_ZQ n M1 → Post r M1) : P_X12_tick (n + 40) p1 M Post := by
  refine t_in J (show (1 : Int32).toInt = 1 from rfl) (show (50 : Int32).toInt = 50 from rfl) (fun x9 h9 => ?_)
  have b := f_1536 J
  have f25 : ∀ v : Int32, (¬ v = 0 → 1 ≤ p1.toInt ∧ p1.toInt ≤ 50 → (z_fi M 1536 (n + 40)).toInt + p1.toInt ≤ 2000) → P_X12_tick_25 (n + 40) Post p1 (some (n + 40)) x9 v M := fun v hv => by
    refine z_nn_of rfl (t_X12_goes J (fun r Mg h1 h2 K p e9 eq Jg => And.intro (fun _ => k _ Mg Jg K.1 (rf_ZIF (rf_F4q eq)) (rf_ZQF (rf_F4q eq) Q)) (fun c => ?_)))
    have hr : r = 1 := h1.elim id (fun h => absurd h c)
    have hp := rf_bt h9 (h2 hr).1
    have hn := hv (h2 hr).2.1 hp
    have kn : z_fi Mg 1536 (n + 40) = z_fi M 1536 (n + 40) := K.2.2 1536 (by decide)
    exact ⟨_, t_ti36z (x1 := p1) (Ms := M) hp.2 k _ 0 Mg (Nat.lt_succ_self _) (by decide) (by rw [kn, show (0 : Int32).toInt = 0 from rfl]; omega) K.1 (rf_ZIF (rf_F4q eq)) (rf_ZQF (rf_F4q eq) Q) Jg⟩
  refine And.intro (fun _ => f25 0 (fun h => absurd rfl h)) (fun c => f25 1 (fun _ hp => ?_))
  have c' := i_nlt c (show (2000 : Int32).toInt = 2000 from rfl) (i_addE (x := z_fi M 1536 (n + 40)) (y := p1) rfl rfl (by omega) (by omega))
  omega
theorem t_X12_readz {Post : Int32 → z_Mem → Prop} (J : rf_J False n t (s + 1) (q + 1) z M0 M) (Q : rf_ZQ n M) (k : ∀ r M1, rf_J False n t s q z M1 M1 → rf_K3 n M M1 → rf_ZI n M M1 → rf_ZQ n M1 → Post r M1) : P_X12_read (n + 40) p1 p2 M Post := by
  by_cases h : z_fi M 1577 (n + 40) = 0
  · have Z := Q h
    refine t_isStream J (fun x1 hx1 => t_in J rfl rfl (fun x2 hx2 => t_X12_goes J (fun r Mg h1 h2 K p e9 eq Jg => ?_)))
    have F := rf_F4q eq
    have kg : ∀ r M1, rf_J False n t (s + 1) (q + 1) z Mg M1 → rf_F4 n M M1 → Post r M1 := fun r M1 J1 F1 => k r M1 (rf_rf (rf_w J1 (by omega) (by omega) (by omega) (by omega))) (rf_K3tr K (rf_K3w J1.2.2)) (rf_ZIF F1) (rf_ZQF F1 Q)
    refine And.intro (fun _ => kg _ Mg Jg F) (fun c => ?_)
    have hr : r = 1 := h1.elim id (fun h => absurd h c)
    have hp := rf_bt hx1 (h2 hr).1
    have hv : ∀ {L : Nat}, L = 4 → vp_in p1 L := fun h => vp_of (L := 4) h (by omega) (by omega)
    have f45 : ∀ v : Int32, P_X12_read_45 (n + 40) Post p1 v Mg := fun v => by
      refine z_nn_of (s_1571_40 Jg.1) (And.intro (hv (s_l65 Jg.1)) (And.intro (hv (s_l65 Jg.1)) ?_))
      intro M5 e5
      have J5 := w_sai Jg e5 (by decide +kernel)
      have F5 : rf_F4 n M M5 := by rw [e5]; exact F
      exact And.intro (fun _ => kg _ M5 J5 F5) (fun _ => And.intro (fun c5 => absurd c5 (rf_ZF Z F5).2.2.2) (fun _ => kg _ M5 J5 F5))
    refine t_X12_gotOf Jg hp (fun x16 => z_nn_of (s_1571_40 Jg.1) (And.intro (hv (s_l65 Jg.1)) ?_))
    intro x20 _
    exact And.intro (fun _ => f45 _) (fun _ => f45 _)
  · exact t_X12_read (al := True) (rf_al J (fun _ => h)) (fun r M1 J1 K1 => k r M1 (rf_no J1) K1 (rf_ZIa h J1) (rf_ZQa J1))
theorem t_ls12z {Post : z_Mem → Prop} {Ms Mx : z_Mem} (k : ∀ M1, rf_J al n t s q z Ms M1 → (∀ g, g ∈ [1551, 1559, 1577, 1562] → z_fi M1 g (n + 40) = z_fi Mx g (n + 40)) → Post M1) : ∀ (m : Nat) (x1 : Int32) (M : z_Mem), (400 - x1.toInt).toNat < m → 0 ≤ x1.toInt → z_fi M = z_fi Mx → rf_J al n t s q z Ms (z_sfi M 1576 (n + 40) 0) → P_X12_loseState_12 (n + 40) Post m x1 M := by
  have T400 : (400 : Int32).toInt = 400 := rfl
  intro m
  induction m with
  | zero => intro x1 M h; exact absurd h (Nat.not_lt_zero _)
  | succ m ih =>
    intro x1 M hm h0 fM J
    have S : y_S n M := J.1
    refine And.intro (fun _ => ?_) (fun c => ?_)
    · intro M2 e2
      have J2 : rf_J al n t s q z Ms (z_sfi M2 1576 (n + 40) 0) := w_sfi J (by rw [e2]; exact rf_comm (by decide)) (by decide +kernel)
      intro M3 e3
      have J3 : rf_J al n t s q z Ms (z_sfi M3 1576 (n + 40) 0) := w_sfi J2 (by rw [e3]; exact rf_comm (by decide)) (by decide +kernel)
      intro M4 e4
      have J4 : rf_J al n t s q z Ms (z_sfi M4 1576 (n + 40) 0) := w_sfi J3 (by rw [e4]; exact rf_comm (by decide)) (by decide +kernel)
      intro M5 e5
      have J5 : rf_J al n t s q z Ms (z_sfi M5 1576 (n + 40) 0) := w_1575 J4 (by rw [e5]; exact rf_comm (by decide)) (by decide) (by decide)
      intro M6 e6
      rw [e6]
      refine k _ J5 (fun g hg => ?_)
      have hx : ∀ w, w ∈ [1572, 1573, 1574, 1575, 1576] → g ≠ w := by revert hg; revert g; decide
      rw [rf_nf (hx 1576 (by decide)), e5, e4, e3, e2, rf_nf (hx 1575 (by decide)), rf_nf (hx 1574 (by decide)), rf_nf (hx 1573 (by decide)), rf_nf (hx 1572 (by decide)), fM]
    · have c' := i_nle c T400 rfl
      refine z_nn_of (s_1569_40 S) (And.intro (vp_of (L := 400) (s_l63 S) h0 (by omega)) ?_)
      intro M10 e10 y ey
      have ty : y.toInt = x1.toInt + 1 := by rw [ey]; exact i_add1 (by omega) (by omega)
      exact ih y M10 (by omega) (by omega) (by rw [e10]; exact fM) (w_63z J (by rw [e10]; rfl) (by rw [rf_ef]; decide))
theorem t_X12_loseStatez {Post : z_Mem → Prop} (J : rf_J False n t s q z M0 M) (Q : rf_ZQ n M) (k : ∀ M1, rf_J False n t s q z M1 M1 → rf_K3 n M M1 → rf_ZI n M M1 → rf_ZQ n M1 → Post M1) : P_X12_loseState (n + 40) M Post := by
  intro M12 e12
  have J12 := w_1630 J e12
  intro M13 e13
  have J13 := w_sfi J12 e13 (by decide +kernel)
  have JS := w_1576 (M1 := z_sfi M13 1576 (n + 40) 0) J13 rfl (fun h => absurd h (by decide))
  refine ⟨_, t_ls12z (Ms := M12) (Mx := M13) (fun M1 J1 F1 => ?_) _ 0 M13 (Nat.lt_succ_self _) (by decide) rfl JS⟩
  have g3 : ∀ g, g ∈ [1551, 1559, 1577] → z_fi M1 g (n + 40) = z_fi M g (n + 40) := fun g hg => by
    have hx : ∀ w, w ∈ [1562, 1630] → g ≠ w := by revert hg; revert g; decide
    rw [F1 g (by clear hx; revert hg; revert g; decide), e13, e12, rf_nf (hx 1562 (by decide)), rf_nf (hx 1630 (by decide))]
  have g1 : z_fi M1 1562 (n + 40) = 3 := by rw [F1 1562 (by decide), e13, rf_ef]
  exact k M1 (rf_rf J1) (rf_K3tr (M := M12) (by rw [e12]; exact rf_K3f (by decide) (by decide)) (rf_K3w J1.2.2)) (by unfold rf_ZI; rw [g3 1577 (by decide)]) (fun h => by
    have Z := Q ((g3 1577 (by decide)).symm.trans h)
    exact ⟨h, (g3 1551 (by decide)).trans Z.2.1, (g3 1559 (by decide)).trans Z.2.2.1, by rw [g1]; decide⟩)
theorem t_X12_checkz {Post : z_Mem → Prop} (J : rf_J False n (t + 1) (s + 1) (q + 1) z M0 M) (Q : rf_ZQ n M) (k : ∀ M1, rf_J False n t s q z M1 M1 → rf_K3 n M M1 → rf_ZI n M M1 → rf_ZQ n M1 → Post M1) : P_X12_check (n + 40) p1 M Post := by
  by_cases h : z_fi M 1577 (n + 40) = 0
  · refine t_isPath J (fun x1 hx1 => And.intro (fun c => absurd (h.symm.trans c) (by decide)) (fun _ => ?_))
    refine t_X12_goes J (fun r Mg h1 h2 K p e9 eq Jg => And.intro (fun _ => k Mg (rf_w Jg (by omega) (by omega) (by omega) (by omega)) K (rf_ZIF (rf_F4q eq)) (rf_ZQF (rf_F4q eq) Q)) (fun c => ?_))
    have hr : r = 1 := h1.elim id (fun h => absurd h c)
    exact absurd rfl (h2 hr).2.1
  · exact t_X12_check (al := True) (rf_al J (fun _ => h)) (fun M1 J1 K1 => k M1 (rf_no J1) K1 (rf_ZIa h J1) (rf_ZQa J1))
theorem t_X12_closez {Post : z_Mem → Prop} (J : rf_J False n (t + 1) (s + 1) (q + 1) z M0 M) (Q : rf_ZQ n M) (k : ∀ M1, rf_J False n t s q z M1 M1 → rf_K3 n M M1 → rf_ZI n M M1 → rf_ZQ n M1 → Post M1) : P_X12_close (n + 40) M Post := by
  by_cases h : z_fi M 1577 (n + 40) = 0
  · refine And.intro (fun c => absurd (h.symm.trans c) (by decide)) (fun _ => ?_)
    refine z_nn_of rfl (t_X12_goes J (fun r Mg h1 h2 K p e9 eq Jg => And.intro (fun _ => k Mg (rf_w Jg (by omega) (by omega) (by omega) (by omega)) K (rf_ZIF (rf_F4q eq)) (rf_ZQF (rf_F4q eq) Q)) (fun c => ?_)))
    have hr : r = 1 := h1.elim id (fun h => absurd h c)
    exact absurd rfl (h2 hr).1
  · exact t_X12_close (al := True) (rf_al J (fun _ => h)) (fun M1 J1 K1 => k M1 (rf_no J1) K1 (rf_ZIa h J1) (rf_ZQa J1))
/-- what connect of the reference does -/
def rf_oCO (n : Nat) (p1 : Int32) (M M1 : z_Mem) : Prop :=
  (¬ (-1 ≤ p1.toInt ∧ p1.toInt ≤ 9) ∧ z_fi M1 1630 (n + 40) = 1 ∧ rf_ZI n M M1) ∨
  ((-1 ≤ p1.toInt ∧ p1.toInt ≤ 9) ∧ ¬ z_fi M 1577 (n + 40) = 0 ∧ z_fi M1 1630 (n + 40) = 2 ∧ rf_ZI n M M1) ∨
  ((-1 ≤ p1.toInt ∧ p1.toInt ≤ 9) ∧ z_fi M 1577 (n + 40) = 0 ∧ z_fi M1 1630 (n + 40) = 0 ∧ ¬ z_fi M1 1577 (n + 40) = 0)
theorem t_X12_connectz {Post : z_Mem → Prop} (J : rf_J False n (t + 1) (s + 1) (q + 1) z M0 M) (Q : rf_ZQ n M) (k : ∀ M1, rf_J False n t s q z M1 M1 → rf_K3 n M M1 → rf_oCO n p1 M M1 → rf_ZQ n M1 → Post M1) : P_X12_connect (n + 40) p1 M Post := by
  refine t_in J (show (-1 : Int32).toInt = -1 from rfl) (show (9 : Int32).toInt = 9 from rfl) (fun x8 h8 => ?_)
  have f20 : ∀ v : Int32, (v = 1 ∧ z_fi M 1577 (n + 40) = 0) ∨ (v = 0 ∧ ¬ z_fi M 1577 (n + 40) = 0) → P_X12_connect_20 (n + 40) Post p1 (some (n + 40)) x8 v M := fun v hvv => by
    refine z_nn_of rfl (t_X12_goes J (fun r Mg h1 h2 K p e9 eq Jg => And.intro (fun c => ?_) (fun c => ?_)))
    · have F := rf_F4q eq
      refine k Mg (rf_w Jg (by omega) (by omega) (by omega) (by omega)) K ?_ (rf_ZQF F Q)
      by_cases a : (-1 ≤ p1.toInt ∧ p1.toInt ≤ 9)
      · rcases hvv with hvv | hvv
        · refine absurd (e9.2 ?_) (by rw [c]; decide)
          rw [(h8.elim id (fun h => absurd a h.2)).1, hvv.1]; decide
        · refine Or.inr (Or.inl ⟨a, hvv.2, ?_, rf_ZIF F⟩)
          rw [p, (h8.elim id (fun h => absurd a h.2)).1, hvv.1]; decide
      · refine Or.inl ⟨a, ?_, rf_ZIF F⟩
        rw [p, (h8.elim (fun h => absurd h.2 a) id).1]; unfold rf_cd; rw [if_pos rfl]
    have hr : r = 1 := h1.elim id (fun h => absurd h c)
    have hp := rf_bt h8 (h2 hr).1
    have hz : z_fi M 1577 (n + 40) = 0 := (hvv.elim id (fun h => absurd h.1 (h2 hr).2.1)).2
    have hc : z_fi Mg 1630 (n + 40) = 0 := p.trans (e9.1 hr)
    intro M4 e4 M5 e5 M6 e6
    have JA := w_1581 (M1 := z_sfi Mg 1581 (n + 40) 10) Jg rfl (by decide) (by decide)
    have JB := w_1578 (M1 := z_sfi (z_sfi Mg 1581 (n + 40) 10) 1578 (n + 40) p1) JA rfl hp.1 hp.2
    have JC := w_1577c (v := 1) (M1 := z_sfi (z_sfi (z_sfi Mg 1581 (n + 40) 10) 1578 (n + 40) p1) 1577 (n + 40) 1) JB rfl (by rw [rf_nf (by decide), rf_ef]; decide) (fun h => h.elim)
    have JD := rf_al (al1 := True) JC (fun _ => by rw [rf_ef]; decide)
    have eM : M6 = z_sfi (z_sfi (z_sfi Mg 1581 (n + 40) 10) 1578 (n + 40) p1) 1577 (n + 40) 1 := by
      rw [e6, e5, e4, rf_comm (show (1577 : Nat) ≠ 1578 by decide), rf_comm (show (1577 : Nat) ≠ 1581 by decide), rf_comm (show (1578 : Nat) ≠ 1581 by decide)]
    rw [← eM] at JD
    exact t_X12_saysHello JD (fun M7 J7 => k M7 (rf_rf (rf_no J7)) (rf_K3tr K (rf_K3w J7.2.2)) (Or.inr (Or.inr ⟨hp, hz, (J7.2.2.2.2.2.2.2.2.2.2.2.2 1630 (by decide)).trans hc, rf_av J7⟩)) (rf_ZQa J7))
  exact And.intro (fun c => f20 1 (Or.inl ⟨rfl, c⟩)) (fun c => f20 0 (Or.inr ⟨rfl, c⟩))
end RZ
