/-! ===== THE REFERENCE: ticks, and what there is ===== -/
section RGC
variable {n t s q z : Nat} {M0 M M1 M2 : z_Mem} {p1 p2 p3 : Int32}
theorem t_ti36 {x1 : Int32} {Ms : z_Mem} {Post : Int32 → z_Mem → Prop} (h50 : x1.toInt ≤ 50) (k : ∀ r M1, rf_J n (t + 60) (s + 60) (q + 60) z M1 M1 → rf_KC n Ms M1 → Post r M1) : ∀ (m : Nat) (x2 : Int32) (M : z_Mem), (50 - x2.toInt).toNat < m → 0 ≤ x2.toInt → (z_fi M 1536 (n + 40)).toInt + (x1.toInt - x2.toInt) ≤ 2000 → rf_KC n Ms M → rf_J n (t + 60) (s + 60) (q + 60) z M M → P_X12_tick_36 (n + 40) Post m x1 x2 M := by
  intro m
  induction m with
  | zero => intro x2 M h; exact absurd h (Nat.not_lt_zero _)
  | succ m ih =>
    intro x2 M hm h0 hn K J
    refine And.intro (fun _ => k _ M J K) (fun c => ?_)
    have c' := i_nle c rfl rfl
    have b := f_1536 J
    refine t_X12_passes J (by omega) (fun M3 J3 K3 => ?_)
    have kn : z_fi M3 1536 (n + 40) = z_fi M 1536 (n + 40) + 1 := by
      rw [K3.2.2.2.2.2.2.2.2.2.2 1536 (by decide), rf_ef]
    have tn : (z_fi M3 1536 (n + 40)).toInt = (z_fi M 1536 (n + 40)).toInt + 1 := by rw [kn]; exact i_addE rfl (show (1 : Int32).toInt = 1 from rfl) (by omega) (by omega)
    obtain ⟨a1, a2, a3, a4, a5, a6, a7, a8, a9, a10, a11⟩ := K3
    intro y ey
    have ty : y.toInt = x2.toInt + 1 := by rw [ey]; exact i_add1 (by omega) (by omega)
    exact ih y M3 (by omega) (by omega) (by omega) (rf_KCtr K (rf_KCtr (rf_KCf (M := M) (g := 1536) (v := z_fi M 1536 (n + 40) + 1) (by decide)) ⟨a1, a2, a3, a4, a5, a6, a7, a8, a9⟩)) J3
theorem t_X12_tick {Post : Int32 → z_Mem → Prop} (J : rf_J n (t + 60) (s + 60) (q + 60) z M0 M) (k : ∀ r M1, rf_J n (t + 60) (s + 60) (q + 60) z M1 M1 → rf_KC n M M1 → Post r M1) : P_X12_tick (n + 40) p1 M Post := by
  refine t_in J (show (1 : Int32).toInt = 1 from rfl) (show (50 : Int32).toInt = 50 from rfl) (fun x9 h9 => ?_)
  have b := f_1536 J
  have f25 : ∀ v : Int32, (¬ v = 0 → 1 ≤ p1.toInt ∧ p1.toInt ≤ 50 → (z_fi M 1536 (n + 40)).toInt + p1.toInt ≤ 2000) → P_X12_tick_25 (n + 40) Post p1 (some (n + 40)) x9 v M := fun v hv => by
    refine z_nn_of rfl (t_X12_goes J (fun r Mg h1 h2 K p e9 eq Jg => And.intro (fun _ => k _ Mg Jg K.1) (fun c => ?_)))
    have hr : r = 1 := h1.elim id (fun h => absurd h c)
    have hp := rf_bt h9 (h2 hr).1
    have hn := hv (h2 hr).2.1 hp
    have kn : z_fi Mg 1536 (n + 40) = z_fi M 1536 (n + 40) := K.2.2 1536 (by decide)
    exact ⟨_, t_ti36 (x1 := p1) (Ms := M) hp.2 k _ 0 Mg (Nat.lt_succ_self _) (by decide) (by rw [kn, show (0 : Int32).toInt = 0 from rfl]; omega) K.1 Jg⟩
  refine And.intro (fun _ => f25 0 (fun h => absurd rfl h)) (fun c => f25 1 (fun _ hp => ?_))
  have c' := i_nlt c (show (2000 : Int32).toInt = 2000 from rfl) (i_addE (x := z_fi M 1536 (n + 40)) (y := p1) rfl rfl (by omega) (by omega))
  omega
theorem t_X12_now {Post : Int32 → z_Mem → Prop} (J : rf_J n t s q z M0 M) (k : ∀ r M1, rf_J n t s q z M1 M1 → rf_K3 n M M1 → Post r M1) : P_X12_now (n + 40) M Post := by
  intro M1 e1
  exact k _ M1 (w_1630 J e1) (by rw [e1]; exact rf_K3f (by decide) (by decide))
theorem t_X12_credit {Post : Int32 → z_Mem → Prop} (J : rf_J n t s q z M0 M) (k : ∀ r M1, rf_J n t s q z M1 M1 → rf_K3 n M M1 → Post r M1) : P_X12_credit (n + 40) M Post := by
  intro M1 e1
  exact k _ M1 (w_1630 J e1) (by rw [e1]; exact rf_K3f (by decide) (by decide))
theorem t_X12_packets {Post : Int32 → z_Mem → Prop} (J : rf_J n t s q z M0 M) (k : ∀ r M1, rf_J n t s q z M1 M1 → rf_K3 n M M1 → Post r M1) : P_X12_packets (n + 40) M Post := by
  intro M1 e1
  exact k _ M1 (w_1630 J e1) (by rw [e1]; exact rf_K3f (by decide) (by decide))
theorem t_X12_state {Post : Int32 → z_Mem → Prop} (J : rf_J n t s q z M0 M) (k : ∀ r M1, rf_J n t s q z M1 M1 → rf_K3 n M M1 → Post r M1) : P_X12_state (n + 40) p1 M Post := by
  refine t_in J rfl rfl (fun x1 h1 => t_X12_goes J (fun r Mg g1 g2 K p e9 eq Jg => ?_))
  have f : ∀ v, Post v Mg := fun v => k v Mg Jg K
  exact And.intro (fun _ => f _) (fun _ => And.intro (fun _ => f _) (fun _ => And.intro (fun _ => f _) (fun _ => And.intro (fun _ => f _) (fun _ => And.intro (fun _ => f _) (fun _ => f _)))))
theorem t_X12_path {Post : Int32 → z_Mem → Prop} (J : rf_J n t s q z M0 M) (k : ∀ r M1, rf_J n t s q z M1 M1 → rf_K3 n M M1 → Post r M1) : P_X12_path (n + 40) p1 p2 M Post := by
  refine t_isPath J (fun x1 hx1 => t_in J rfl rfl (fun x2 hx2 => t_X12_goes J (fun r Mg h1 h2 K p e9 eq Jg => ?_)))
  have f : ∀ v, Post v Mg := fun v => k v Mg Jg K
  refine And.intro (fun _ => f _) (fun c => ?_)
  have hr : r = 1 := h1.elim id (fun h => absurd h c)
  have hp := rf_bt hx1 (h2 hr).1
  have hv : ∀ {L : Nat}, L = 2 → vp_in p1 L := fun h => vp_of (L := 2) h (by omega) (by omega)
  exact And.intro (fun _ => z_nn_of (s_1607_40 Jg.1) (And.intro (hv (s_l84 Jg.1)) (f _))) (And.intro (fun _ => z_nn_of (s_1608_40 Jg.1) (And.intro (hv (s_l85 Jg.1)) (f _))) (And.intro (fun _ => t_X12_inFlight Jg (fun x12 => f _)) (And.intro (fun _ => z_nn_of (s_1610_40 Jg.1) (And.intro (hv (s_l87 Jg.1)) (f _))) (And.intro (fun _ => z_nn_of (s_1611_40 Jg.1) (And.intro (hv (s_l88 Jg.1)) (f _))) (And.intro (fun _ => z_nn_of (s_1612_40 Jg.1) (And.intro (hv (s_l89 Jg.1)) (f _))) (And.intro (fun _ => z_nn_of (s_1613_40 Jg.1) (And.intro (hv (s_l90 Jg.1)) (f _))) (And.intro (fun _ => z_nn_of (s_1615_40 Jg.1) (And.intro (hv (s_l92 Jg.1)) (And.intro (fun _ => f _) (fun _ => f _)))) (fun _ => z_nn_of (s_1547_40 Jg.1) (And.intro (hv (s_l51 Jg.1)) (f _))))))))))
theorem t_X12_packet {Post : Int32 → z_Mem → Prop} (J : rf_J n t s q z M0 M) (k : ∀ r M1, rf_J n t s q z M1 M1 → rf_K3 n M M1 → Post r M1) : P_X12_packet (n + 40) p1 p2 M Post := by
  have b := f_1606 J
  refine t_in J rfl (i_subE (x := z_fi M 1606 (n + 40)) rfl (show (1 : Int32).toInt = 1 from rfl) (by omega) (by omega)) (fun x1 hx1 => t_in J rfl rfl (fun x2 hx2 => t_X12_goes J (fun r Mg h1 h2 K p e9 eq Jg => ?_)))
  have f : ∀ v, Post v Mg := fun v => k v Mg Jg K
  refine And.intro (fun _ => f _) (fun c => ?_)
  have hr : r = 1 := h1.elim id (fun h => absurd h c)
  have hp := rf_bt hx1 (h2 hr).1
  rw [show (0 : Int32).toInt = 0 from rfl] at hp
  have hv : ∀ {L : Nat}, L = 400 → vp_in p1 L := fun h => vp_of (L := 400) h (by omega) (by omega)
  exact And.intro (fun _ => z_nn_of (s_1593_40 Jg.1) (And.intro (hv (s_l71 Jg.1)) (f _))) (And.intro (fun _ => z_nn_of (s_1594_40 Jg.1) (And.intro (hv (s_l72 Jg.1)) (f _))) (And.intro (fun _ => z_nn_of (s_1595_40 Jg.1) (And.intro (hv (s_l73 Jg.1)) (f _))) (And.intro (fun _ => z_nn_of (s_1596_40 Jg.1) (And.intro (hv (s_l74 Jg.1)) (f _))) (And.intro (fun _ => z_nn_of (s_1597_40 Jg.1) (And.intro (hv (s_l75 Jg.1)) (f _))) (And.intro (fun _ => z_nn_of (s_1598_40 Jg.1) (And.intro (hv (s_l76 Jg.1)) (f _))) (And.intro (fun _ => z_nn_of (s_1599_40 Jg.1) (And.intro (hv (s_l77 Jg.1)) (f _))) (And.intro (fun _ => z_nn_of (s_1600_40 Jg.1) (And.intro (hv (s_l78 Jg.1)) (f _))) (And.intro (fun _ => z_nn_of (s_1601_40 Jg.1) (And.intro (hv (s_l79 Jg.1)) (And.intro (fun _ => f _) (fun _ => f _)))) (And.intro (fun _ => z_nn_of (s_1602_40 Jg.1) (And.intro (hv (s_l80 Jg.1)) (And.intro (fun _ => f _) (fun _ => f _)))) (fun _ => z_nn_of (s_1603_40 Jg.1) (And.intro (hv (s_l81 Jg.1)) (And.intro (fun _ => f _) (fun _ => f _)))))))))))))
theorem t_X12_count {Post : Int32 → z_Mem → Prop} (J : rf_J n t s q z M0 M) (k : ∀ r M1, rf_J n t s q z M1 M1 → rf_K3 n M M1 → Post r M1) : P_X12_count (n + 40) p1 M Post := by
  refine t_in J (show (0 : Int32).toInt = 0 from rfl) (show (5 : Int32).toInt = 5 from rfl) (fun x1 hx1 => t_X12_goes J (fun r Mg h1 h2 K p e9 eq Jg => ?_))
  refine And.intro (fun _ => k _ Mg Jg K) (fun c => ?_)
  have hr : r = 1 := h1.elim id (fun h => absurd h c)
  have hp := rf_bt hx1 (h2 hr).1
  exact z_nn_of (s_1629_40 Jg.1) (And.intro (vp_of (L := 6) (s_l106 Jg.1) (by omega) (by omega)) (k _ Mg Jg K))
theorem t_X12_inFlightAnew {Post : Int32 → z_Mem → Prop} (J : rf_J n t s q z M0 M) (k : ∀ r M1, rf_J n t s q z M1 M1 → rf_K3 n M M1 → Post r M1) : P_X12_inFlightAnew (n + 40) p1 M Post :=
  t_isPath J (fun x1 hx1 => t_X12_goes J (fun r Mg h1 h2 K p e9 eq Jg => And.intro (fun _ => k _ Mg Jg K) (fun _ => t_X12_inFlight Jg (fun x4 => k _ Mg Jg K))))
theorem t_st26 {Post : Int32 → z_Mem → Prop} (J : rf_J n t s q z M0 M) (k : ∀ r, Post r M) : ∀ (m : Nat) (x1 x2 x3 x4 : Int32), (200 - x4.toInt).toNat < m → 0 ≤ x1.toInt → x1.toInt ≤ 3 → 0 ≤ x4.toInt → P_X12_stream_26 (n + 40) Post m x1 x2 x3 x4 M := by
  intro m
  induction m with
  | zero => intro x1 x2 x3 x4 h; exact absurd h (Nat.not_lt_zero _)
  | succ m ih =>
    intro x1 x2 x3 x4 hm h1 h2 h0
    have hv : ∀ {L : Nat}, L = 4 → vp_in x1 L := fun h => vp_of (L := 4) h h1 (by omega)
    refine z_nn_of (s_1587_40 J.1) (And.intro (hv (s_l67 J.1)) (And.intro (fun _ => ?_) (fun c => ?_)))
    · exact And.intro (fun _ => z_nn_of (s_1586_40 J.1) (And.intro (hv (s_l66 J.1)) (k _))) (fun _ => And.intro (fun _ => z_nn_of (s_1587_40 J.1) (And.intro (hv (s_l67 J.1)) (k _))) (fun _ => And.intro (fun _ => And.intro (fun _ => z_nn_of (s_1588_40 J.1) (And.intro (hv (s_l68 J.1)) (k _))) (fun _ => And.intro (fun _ => t_X12_gotOf J ⟨h1, h2⟩ (fun x18 => k _)) (fun _ => z_nn_of (s_1571_40 J.1) (And.intro (hv (s_l65 J.1)) (k _))))) (fun _ => k _)))
    · have c' := i_nle c rfl rfl
      have b := a_67 J x1.toNatClampNeg
      have ny : ∀ y, y = x4 + 1 → y.toInt = x4.toInt + 1 := fun y ey => by rw [ey]; exact i_add1 (by omega) (by omega)
      have f79 : ∀ t0 t1 : Int32, P_X12_stream_79 (n + 40) Post (fun q0 q1 q2 q3 qM => P_X12_stream_26 (n + 40) Post m q0 q1 q2 q3 qM) x1 x2 x4 t0 t1 M := fun t0 t1 w _ y ey => by
        have ty := ny y ey
        exact ih x1 x2 w y (by omega) h1 h2 (by omega)
      have f59 : P_X12_stream_59 (n + 40) Post (fun q0 q1 q2 q3 qM => P_X12_stream_26 (n + 40) Post m q0 q1 q2 q3 qM) x1 x2 x4 x3 M := And.intro (fun _ => t_X12_isLost J ⟨h1, h2⟩ ⟨h0, by omega⟩ (fun x5 => And.intro (fun _ => f79 _ _) (fun _ => f79 _ _))) (fun _ => f79 _ _)
      have T200 : (200 : Int32).toInt = 200 := rfl
      refine And.intro (fun _ => z_nn_of (s_1591_40 J.1) (And.intro (vp_of (L := 800) (s_l69 J.1) (by rw [i_addE (i_mulE T200 rfl (by omega) (by omega)) rfl (by omega) (by omega)]; omega) (by rw [i_addE (i_mulE T200 rfl (by omega) (by omega)) rfl (by omega) (by omega)]; omega)) (And.intro (fun _ => f59) (fun _ => f79 _ _)))) (fun _ => f59)
theorem t_X12_stream {Post : Int32 → z_Mem → Prop} (J : rf_J n t s q z M0 M) (k : ∀ r M1, rf_J n t s q z M1 M1 → rf_K3 n M M1 → Post r M1) : P_X12_stream (n + 40) p1 p2 M Post := by
  refine t_isStream J (fun x1 hx1 => t_in J rfl rfl (fun x2 hx2 => t_X12_goes J (fun r Mg h1 h2 K p e9 eq Jg => And.intro (fun _ => k _ Mg Jg K) (fun c => ?_))))
  have hr : r = 1 := h1.elim id (fun h => absurd h c)
  have hp := rf_bt hx1 (h2 hr).1
  exact ⟨_, t_st26 Jg (fun r => k r Mg Jg K) _ p1 p2 0 0 (Nat.lt_succ_self _) hp.1 hp.2 (by decide)⟩
theorem t_ga35 {Post : Int32 → z_Mem → Prop} {K : Int32 → Int32 → Int32 → z_Mem → Prop} {x1 x2 : Int32} (J : rf_J n t s q z M0 M) (k : ∀ (a x3 y : Int32), (x3 = 0 ∧ y = x2 + 0) ∨ (¬ x3 = 0 ∧ y = x2 + 1) → K x1 y x3 M) : ∀ (m : Nat) (x3 x4 : Int32), (400 - x4.toInt).toNat < m → 0 ≤ x4.toInt → P_X12_gotAnew_35 (n + 40) Post K m x1 x2 x3 x4 M := by
  have b := f_1606 J
  intro m
  induction m with
  | zero => intro x3 x4 h; exact absurd h (Nat.not_lt_zero _)
  | succ m ih =>
    intro x3 x4 hm h0
    refine And.intro (fun _ => And.intro (fun c => ?_) (fun c => ?_)) (fun c => ?_)
    · intro y ey; exact k x4 x3 y (Or.inl ⟨c, ey⟩)
    · intro y ey; exact k x4 x3 y (Or.inr ⟨c, ey⟩)
    · have c' := i_nle c rfl rfl
      have ny : ∀ y, y = x4 + 1 → y.toInt = x4.toInt + 1 := fun y ey => by rw [ey]; exact i_add1 (by omega) (by omega)
      have hv : ∀ {L : Nat}, L = 400 → vp_in x4 L := fun h => vp_of (L := 400) h h0 (by omega)
      have f106 : ∀ v : Int32, P_X12_gotAnew_106 (n + 40) Post K (fun q0 q1 q2 q3 qM => P_X12_gotAnew_35 (n + 40) Post K m q0 q1 q2 q3 qM) x1 x2 x4 v M := fun v y ey => by
        have ty := ny y ey
        exact ih v y (by omega) (by omega)
      exact And.intro (fun _ => z_nn_of (s_1599_40 J.1) (And.intro (hv (s_l77 J.1)) (And.intro (fun _ => z_nn_of (s_1595_40 J.1) (And.intro (hv (s_l73 J.1)) (And.intro (fun _ => z_nn_of (s_1596_40 J.1) (And.intro (hv (s_l74 J.1)) (z_nn_of (s_1596_40 J.1) (And.intro (hv (s_l74 J.1)) (z_nn_of (s_1597_40 J.1) (And.intro (hv (s_l75 J.1)) (t_X12_in J (fun x24 _ => And.intro (fun _ => f106 0) (fun _ => f106 1)))))))))  (fun _ => f106 0)))) (fun _ => f106 0)))) (fun _ => f106 1)
theorem t_ga19 {Post : Int32 → z_Mem → Prop} {x1 : Int32} (J : rf_J n t s q z M0 M) (k : ∀ r, Post r M) : ∀ (m : Nat) (x2 x3 : Int32), 2 * (200 - x2.toInt).toNat + (if x3 = 0 then 0 else 1) < m → 0 ≤ x2.toInt → P_X12_gotAnew_19 (n + 40) Post m x1 x2 x3 M := by
  have T200 : (200 : Int32).toInt = 200 := rfl
  intro m
  induction m with
  | zero => intro x2 x3 h; exact absurd h (Nat.not_lt_zero _)
  | succ m ih =>
    intro x2 x3 hm h0
    refine And.intro (fun _ => k _) (fun c => And.intro (fun _ => k _) (fun c2 => ?_))
    have c2' := i_nle c2 T200 rfl
    rw [if_neg c] at hm
    refine ⟨_, t_ga35 J (fun a y3 y hy => ?_) _ 0 0 (Nat.lt_succ_self _) (by decide)⟩
    rcases hy with ⟨e, ey⟩ | ⟨e, ey⟩
    · have ty : y.toInt = x2.toInt := by rw [ey, i_addE (x := x2) (y := 0) rfl (show (0 : Int32).toInt = 0 from rfl) (by omega) (by omega)]; omega
      exact ih y y3 (by rw [if_pos e]; omega) (by omega)
    · have ty : y.toInt = x2.toInt + 1 := by rw [ey]; exact i_add1 (by omega) (by omega)
      exact ih y y3 (by rw [if_neg e]; omega) (by omega)
theorem t_X12_gotAnew {Post : Int32 → z_Mem → Prop} (J : rf_J n t s q z M0 M) (k : ∀ r M1, rf_J n t s q z M1 M1 → rf_K3 n M M1 → Post r M1) : P_X12_gotAnew (n + 40) p1 M Post :=
  t_isStream J (fun x1 hx1 => t_X12_goes J (fun r Mg h1 h2 K p e9 eq Jg => And.intro (fun _ => k _ Mg Jg K) (fun _ => ⟨_, t_ga19 Jg (fun r => k r Mg Jg K) _ 0 1 (Nat.lt_succ_self _) (by decide)⟩)))
end RGC
