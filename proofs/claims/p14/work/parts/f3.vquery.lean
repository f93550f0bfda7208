/-! ===== THE REFERENCE: its queries change nothing but the code ===== -/
section VRGC
variable {n t s q z : Nat} {M0 M M1 M2 : z_Mem} {p1 p2 p3 : Int32}
theorem v_X12_now {Post : Int32 → z_Mem → Prop} (J : rf_J n t s q z M0 M) (k : ∀ r M1, rf_J n t s q z M1 M1 → rf_K3 n M M1 → (∃ v, M1 = z_sfi M 1630 (n + 40) v) → Post r M1) : P_X12_now (n + 40) M Post := by
  intro M1 e1
  exact k _ M1 (w_1630 J e1) (by rw [e1]; exact rf_K3f (by decide) (by decide)) ⟨_, e1⟩
theorem v_X12_credit {Post : Int32 → z_Mem → Prop} (J : rf_J n t s q z M0 M) (k : ∀ r M1, rf_J n t s q z M1 M1 → rf_K3 n M M1 → (∃ v, M1 = z_sfi M 1630 (n + 40) v) → Post r M1) : P_X12_credit (n + 40) M Post := by
  intro M1 e1
  exact k _ M1 (w_1630 J e1) (by rw [e1]; exact rf_K3f (by decide) (by decide)) ⟨_, e1⟩
theorem v_X12_packets {Post : Int32 → z_Mem → Prop} (J : rf_J n t s q z M0 M) (k : ∀ r M1, rf_J n t s q z M1 M1 → rf_K3 n M M1 → (∃ v, M1 = z_sfi M 1630 (n + 40) v) → Post r M1) : P_X12_packets (n + 40) M Post := by
  intro M1 e1
  exact k _ M1 (w_1630 J e1) (by rw [e1]; exact rf_K3f (by decide) (by decide)) ⟨_, e1⟩
theorem v_X12_state {Post : Int32 → z_Mem → Prop} (J : rf_J n t s q z M0 M) (k : ∀ r M1, rf_J n t s q z M1 M1 → rf_K3 n M M1 → (∃ v, M1 = z_sfi M 1630 (n + 40) v) → Post r M1) : P_X12_state (n + 40) p1 M Post := by
  refine t_in J rfl rfl (fun x1 h1 => t_X12_goes J (fun r Mg g1 g2 K p e9 eq Jg => ?_))
  have f : ∀ v, Post v Mg := fun v => k v Mg Jg K ⟨_, eq⟩
  exact And.intro (fun _ => f _) (fun _ => And.intro (fun _ => f _) (fun _ => And.intro (fun _ => f _) (fun _ => And.intro (fun _ => f _) (fun _ => And.intro (fun _ => f _) (fun _ => f _)))))
theorem v_X12_path {Post : Int32 → z_Mem → Prop} (J : rf_J n t s q z M0 M) (k : ∀ r M1, rf_J n t s q z M1 M1 → rf_K3 n M M1 → (∃ v, M1 = z_sfi M 1630 (n + 40) v) → Post r M1) : P_X12_path (n + 40) p1 p2 M Post := by
  refine t_isPath J (fun x1 hx1 => t_in J rfl rfl (fun x2 hx2 => t_X12_goes J (fun r Mg h1 h2 K p e9 eq Jg => ?_)))
  have f : ∀ v, Post v Mg := fun v => k v Mg Jg K ⟨_, eq⟩
  refine And.intro (fun _ => f _) (fun c => ?_)
  have hr : r = 1 := h1.elim id (fun h => absurd h c)
  have hp := rf_bt hx1 (h2 hr).1
  have hv : ∀ {L : Nat}, L = 2 → vp_in p1 L := fun h => vp_of (L := 2) h (by omega) (by omega)
  exact And.intro (fun _ => z_nn_of (s_1607_40 Jg.1) (And.intro (hv (s_l84 Jg.1)) (f _))) (And.intro (fun _ => z_nn_of (s_1608_40 Jg.1) (And.intro (hv (s_l85 Jg.1)) (f _))) (And.intro (fun _ => t_X12_inFlight Jg (fun x12 => f _)) (And.intro (fun _ => z_nn_of (s_1610_40 Jg.1) (And.intro (hv (s_l87 Jg.1)) (f _))) (And.intro (fun _ => z_nn_of (s_1611_40 Jg.1) (And.intro (hv (s_l88 Jg.1)) (f _))) (And.intro (fun _ => z_nn_of (s_1612_40 Jg.1) (And.intro (hv (s_l89 Jg.1)) (f _))) (And.intro (fun _ => z_nn_of (s_1613_40 Jg.1) (And.intro (hv (s_l90 Jg.1)) (f _))) (And.intro (fun _ => z_nn_of (s_1615_40 Jg.1) (And.intro (hv (s_l92 Jg.1)) (And.intro (fun _ => f _) (fun _ => f _)))) (fun _ => z_nn_of (s_1547_40 Jg.1) (And.intro (hv (s_l51 Jg.1)) (f _))))))))))
theorem v_X12_packet {Post : Int32 → z_Mem → Prop} (J : rf_J n t s q z M0 M) (k : ∀ r M1, rf_J n t s q z M1 M1 → rf_K3 n M M1 → (∃ v, M1 = z_sfi M 1630 (n + 40) v) → Post r M1) : P_X12_packet (n + 40) p1 p2 M Post := by
  have b := f_1606 J
  refine t_in J rfl (i_subE (x := z_fi M 1606 (n + 40)) rfl (show (1 : Int32).toInt = 1 from rfl) (by omega) (by omega)) (fun x1 hx1 => t_in J rfl rfl (fun x2 hx2 => t_X12_goes J (fun r Mg h1 h2 K p e9 eq Jg => ?_)))
  have f : ∀ v, Post v Mg := fun v => k v Mg Jg K ⟨_, eq⟩
  refine And.intro (fun _ => f _) (fun c => ?_)
  have hr : r = 1 := h1.elim id (fun h => absurd h c)
  have hp := rf_bt hx1 (h2 hr).1
  rw [show (0 : Int32).toInt = 0 from rfl] at hp
  have hv : ∀ {L : Nat}, L = 400 → vp_in p1 L := fun h => vp_of (L := 400) h (by omega) (by omega)
  exact And.intro (fun _ => z_nn_of (s_1593_40 Jg.1) (And.intro (hv (s_l71 Jg.1)) (f _))) (And.intro (fun _ => z_nn_of (s_1594_40 Jg.1) (And.intro (hv (s_l72 Jg.1)) (f _))) (And.intro (fun _ => z_nn_of (s_1595_40 Jg.1) (And.intro (hv (s_l73 Jg.1)) (f _))) (And.intro (fun _ => z_nn_of (s_1596_40 Jg.1) (And.intro (hv (s_l74 Jg.1)) (f _))) (And.intro (fun _ => z_nn_of (s_1597_40 Jg.1) (And.intro (hv (s_l75 Jg.1)) (f _))) (And.intro (fun _ => z_nn_of (s_1598_40 Jg.1) (And.intro (hv (s_l76 Jg.1)) (f _))) (And.intro (fun _ => z_nn_of (s_1599_40 Jg.1) (And.intro (hv (s_l77 Jg.1)) (f _))) (And.intro (fun _ => z_nn_of (s_1600_40 Jg.1) (And.intro (hv (s_l78 Jg.1)) (f _))) (And.intro (fun _ => z_nn_of (s_1601_40 Jg.1) (And.intro (hv (s_l79 Jg.1)) (And.intro (fun _ => f _) (fun _ => f _)))) (And.intro (fun _ => z_nn_of (s_1602_40 Jg.1) (And.intro (hv (s_l80 Jg.1)) (And.intro (fun _ => f _) (fun _ => f _)))) (fun _ => z_nn_of (s_1603_40 Jg.1) (And.intro (hv (s_l81 Jg.1)) (And.intro (fun _ => f _) (fun _ => f _)))))))))))))
theorem v_X12_count {Post : Int32 → z_Mem → Prop} (J : rf_J n t s q z M0 M) (k : ∀ r M1, rf_J n t s q z M1 M1 → rf_K3 n M M1 → (∃ v, M1 = z_sfi M 1630 (n + 40) v) → Post r M1) : P_X12_count (n + 40) p1 M Post := by
  refine t_in J (show (0 : Int32).toInt = 0 from rfl) (show (5 : Int32).toInt = 5 from rfl) (fun x1 hx1 => t_X12_goes J (fun r Mg h1 h2 K p e9 eq Jg => ?_))
  refine And.intro (fun _ => k _ Mg Jg K ⟨_, eq⟩) (fun c => ?_)
  have hr : r = 1 := h1.elim id (fun h => absurd h c)
  have hp := rf_bt hx1 (h2 hr).1
  exact z_nn_of (s_1629_40 Jg.1) (And.intro (vp_of (L := 6) (s_l106 Jg.1) (by omega) (by omega)) (k _ Mg Jg K ⟨_, eq⟩))
theorem v_X12_inFlightAnew {Post : Int32 → z_Mem → Prop} (J : rf_J n t s q z M0 M) (k : ∀ r M1, rf_J n t s q z M1 M1 → rf_K3 n M M1 → (∃ v, M1 = z_sfi M 1630 (n + 40) v) → Post r M1) : P_X12_inFlightAnew (n + 40) p1 M Post :=
  t_isPath J (fun x1 hx1 => t_X12_goes J (fun r Mg h1 h2 K p e9 eq Jg => And.intro (fun _ => k _ Mg Jg K ⟨_, eq⟩) (fun _ => t_X12_inFlight Jg (fun x4 => k _ Mg Jg K ⟨_, eq⟩))))
theorem v_X12_stream {Post : Int32 → z_Mem → Prop} (J : rf_J n t s q z M0 M) (k : ∀ r M1, rf_J n t s q z M1 M1 → rf_K3 n M M1 → (∃ v, M1 = z_sfi M 1630 (n + 40) v) → Post r M1) : P_X12_stream (n + 40) p1 p2 M Post := by
  refine t_isStream J (fun x1 hx1 => t_in J rfl rfl (fun x2 hx2 => t_X12_goes J (fun r Mg h1 h2 K p e9 eq Jg => And.intro (fun _ => k _ Mg Jg K ⟨_, eq⟩) (fun c => ?_))))
  have hr : r = 1 := h1.elim id (fun h => absurd h c)
  have hp := rf_bt hx1 (h2 hr).1
  exact ⟨_, t_st26 Jg (fun r => k r Mg Jg K ⟨_, eq⟩) _ p1 p2 0 0 (Nat.lt_succ_self _) hp.1 hp.2 (by decide)⟩
theorem v_X12_gotAnew {Post : Int32 → z_Mem → Prop} (J : rf_J n t s q z M0 M) (k : ∀ r M1, rf_J n t s q z M1 M1 → rf_K3 n M M1 → (∃ v, M1 = z_sfi M 1630 (n + 40) v) → Post r M1) : P_X12_gotAnew (n + 40) p1 M Post :=
  t_isStream J (fun x1 hx1 => t_X12_goes J (fun r Mg h1 h2 K p e9 eq Jg => And.intro (fun _ => k _ Mg Jg K ⟨_, eq⟩) (fun _ => ⟨_, t_ga19 Jg (fun r => k r Mg Jg K ⟨_, eq⟩) _ 0 1 (Nat.lt_succ_self _) (by decide)⟩)))
end VRGC
