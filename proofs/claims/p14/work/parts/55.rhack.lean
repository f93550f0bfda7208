/-! ===== THE REFERENCE: what arrives at the server; the client hears an ACK ===== -/
section RFS
variable {n t s q z : Nat} {M0 M M1 M2 : z_Mem}
theorem t_X12_arrivesAtServer {p1 : Int32} {Post : z_Mem → Prop} (J : rf_J n t (s + 1) (q + 1) z M0 M) (h_p1 : 0 ≤ p1.toInt ∧ p1.toInt ≤ 1299) (k : ∀ M1, rf_J n t s q z M0 M1 → Post M1) : P_X12_arrivesAtServer (n + 40) p1 M Post := by
  have hv : ∀ {L : Nat}, L = 1300 → vp_in p1 L := fun h => vp_of (L := 1300) h (by omega) (by omega)
  refine z_nn_of (s_1548_40 J.1) (And.intro (hv (s_l52 J.1)) ?_)
  intro x15 e15
  refine z_nn_of (s_1550_40 J.1) (And.intro (hv (s_l54 J.1)) ?_)
  intro x19 e19
  have b19 : 0 ≤ x19.toInt ∧ x19.toInt ≤ 1 := by rw [e19]; exact a_54 J _
  refine And.intro (fun c => z_nn_of (s_1549_40 J.1) (And.intro (hv (s_l53 J.1)) ?_)) (fun c => And.intro (fun c2 => z_nn_of (s_1549_40 J.1) (And.intro (hv (s_l53 J.1)) ?_)) (fun c2 => t_X12_arrivesAtServer_46 J b19 k))
  · exact t_X12_hears (rf_w (q := q) J (by omega) (by omega) (by omega) (by omega)) b19 (rf_hello J (by rw [← e15]; exact c)) (fun M29 J29 => k _ J29)
  · by_cases hs : z_fi M 1562 (n + 40) = 1
    · refine t_X12_takes J (a_53 J _) (fun M25 p J25 => ?_)
      have h1 : z_fi M25 1562 (n + 40) = 1 := p.trans hs
      exact And.intro (fun c3 => absurd (h1.symm.trans c3) (by decide)) (fun _ => And.intro (fun c4 => absurd (c2.symm.trans c4) (by decide)) (fun _ => And.intro (fun c5 => absurd (c2.symm.trans c5) (by decide)) (fun _ => k _ J25)))
    · have b53 := a_53 J p1.toNatClampNeg
      refine z_nn_of (s_1599_40 J.1) (And.intro (vp_of (L := 400) (s_l77 J.1) b53.1 (by omega)) ?_)
      intro M72 e72
      have J72 := w_sai J e72 (by decide +kernel)
      exact And.intro (fun c3 => absurd (by rw [e72] at c3; exact c3) hs) (fun _ => t_X12_arrivesAtServer_46 J72 b19 k)
theorem t_ha271 {Post : z_Mem → Prop} (k : ∀ M1, rf_J n t s q z M0 M1 → Post M1) : ∀ (m : Nat) (x5 : Int32) (M : z_Mem), (2 - x5.toInt).toNat < m → 0 ≤ x5.toInt → rf_J n t s q z M0 M → P_X12_hearsAck_271 (n + 40) Post m x5 M := by
  have T2 : (2 : Int32).toInt = 2 := rfl
  intro m
  induction m with
  | zero => intro x5 M h; exact absurd h (Nat.not_lt_zero _)
  | succ m ih =>
    intro x5 M hm h0 J
    refine And.intro (fun _ => k _ J) (fun c => ?_)
    have c' := i_nle c T2 rfl
    refine t_X12_losesByOrder J ⟨h0, by omega⟩ (fun M9 J9 => t_X12_losesByTime J9 ⟨h0, by omega⟩ (fun M10 J10 => ?_))
    intro y ey
    have ty : y.toInt = x5.toInt + 1 := by rw [ey]; exact i_add1 (by omega) (by omega)
    exact ih y M10 (by omega) (by omega) J10
theorem t_ha248 {Post : z_Mem → Prop} (k : ∀ M1, rf_J n t s q z M0 M1 → Post M1) : ∀ (m : Nat) (x5 : Int32) (M : z_Mem), (2 - x5.toInt).toNat < m → 0 ≤ x5.toInt → rf_J n t s q z M0 M → P_X12_hearsAck_248 (n + 40) Post m x5 M := by
  have T2 : (2 : Int32).toInt = 2 := rfl
  intro m
  induction m with
  | zero => intro x5 M h; exact absurd h (Nat.not_lt_zero _)
  | succ m ih =>
    intro x5 M hm h0 J
    refine And.intro (fun _ => ⟨3, t_ha271 k 3 0 M (by decide) (by decide) J⟩) (fun c => ?_)
    have c' := i_nle c T2 rfl
    refine z_nn_of (s_1619_40 J.1) (And.intro (vp_of (L := 2) (s_l96 J.1) h0 (by omega)) ?_)
    intro M17 e17 y ey
    have ty : y.toInt = x5.toInt + 1 := by rw [ey]; exact i_add1 (by omega) (by omega)
    exact ih y M17 (by omega) (by omega) (w_sai J e17 (by decide +kernel))
theorem i_posc {x1 c : Int32} {T cc : Nat} (hx1 : x1.toInt = 15 * T) (hc : c.toInt = cc) (hT : T < 3600) (hcc : cc ≤ 14) : (x1 + c).toInt = ((15 * T + cc : Nat) : Int) := by
  rw [i_addE hx1 hc (by omega) (by omega)]
  omega
theorem t_posv {i : Int32} {T cc L : Nat} (h : i.toInt = ((15 * T + cc : Nat) : Int)) (hT : T < 3600) (hcc : cc ≤ 14) (hL : L = 54000) : vp_in i L := vp_of (L := 54000) hL (by omega) (by omega)
theorem t_ha184 {T : Nat} {x2 : Int32} {Post : z_Mem → Prop} (hT : T < 3600) (hx : x2.toInt = 15 * T) (k : ∀ M1, rf_J n t s q z M0 M1 → Post M1) : ∀ (m : Nat) (x5 : Int32) (M : z_Mem), (4 - x5.toInt).toNat < m → 0 ≤ x5.toInt → rf_J n t s q z M0 M → P_X12_hearsAck_184 (n + 40) Post m x2 x5 M := by
  have T4 : (4 : Int32).toInt = 4 := rfl
  intro m
  induction m with
  | zero => intro x5 M h; exact absurd h (Nat.not_lt_zero _)
  | succ m ih =>
    intro x5 M hm h0 J
    refine And.intro (fun _ => z_nn_of (s_1560_40 J.1) (And.intro (t_posv (i_posc hx (show (14 : Int32).toInt = (14 : Nat) from rfl) hT (by decide)) hT (by decide) (s_l61 J.1)) (t_X12_max J (fun r _ _ _ => ?_)))) (fun c => ?_)
    · intro M25 e25
      exact ⟨3, t_ha248 k 3 0 M25 (by decide) (by decide) (w_sfi J e25 (by decide +kernel))⟩
    · have c' := i_nle c T4 rfl
      have hv : vp_in x5 (z_ln M (n + 68)) := vp_of (L := 4) (s_l68 J.1) h0 (by omega)
      obtain ⟨r, hr⟩ : ∃ r : Nat, x5.toInt = r := ⟨x5.toInt.toNat, by omega⟩
      have hi : ((x2 + 10) + x5).toInt = ((15 * T + (10 + r) : Nat) : Int) := by
        rw [i_addE (i_addE hx (show (10 : Int32).toInt = 10 from rfl) (by omega) (by omega)) hr (by omega) (by omega)]; omega
      refine z_nn_of (s_1588_40 J.1) (And.intro hv (z_nn_of (s_1560_40 J.1) (And.intro (t_posv hi hT (by omega) (s_l61 J.1)) (t_X12_max J (fun r _ _ _ => z_nn_of (s_1588_40 J.1) (And.intro hv ?_))))))
      clear hi
      intro M37 e37 y ey
      have ty : y.toInt = x5.toInt + 1 := by rw [ey]; exact i_add1 (by omega) (by omega)
      exact ih y M37 (by omega) (by omega) (w_sai J e37 (by decide +kernel))
theorem t_ha181 {T : Nat} {x2 : Int32} {Post : z_Mem → Prop} (hT : T < 3600) (hx : x2.toInt = 15 * T) (J : rf_J n t s q z M0 M) (k : ∀ M1, rf_J n t s q z M0 M1 → Post M1) : P_X12_hearsAck_181 (n + 40) Post x2 M :=
  ⟨5, t_ha184 hT hx k 5 0 M (by decide) (by decide) J⟩
theorem t_ha140 {T : Nat} {x2 x3 : Int32} {Post : z_Mem → Prop} (hT : T < 3600) (hx : x2.toInt = 15 * T) (J : rf_J n t s q z M0 M) (h3 : 0 < (z_ai M (n + 61) (15 * T)).toInt → 0 ≤ x3.toInt ∧ x3.toInt ≤ 399) (k : ∀ M1, rf_J n t s q z M0 M1 → Post M1) : P_X12_hearsAck_140 (n + 40) Post x2 x3 M := by
  have hi := i_posc hx (show (9 : Int32).toInt = (9 : Nat) from rfl) hT (by decide)
  have N9 : (x2 + 9).toNatClampNeg = 15 * T + 9 := i_nat hi
  have hv : ∀ {L : Nat}, L = 54000 → vp_in (x2 + 9) L := fun h => t_posv hi hT (by decide) h
  refine z_nn_of (s_1560_40 J.1) (And.intro (hv (s_l61 J.1)) (And.intro (fun _ => t_ha181 hT hx J k) (fun c => z_nn_of (s_1560_40 J.1) (And.intro (hv (s_l61 J.1)) ?_))))
  have c' := i_nle c rfl rfl
  have b := f_1585 J
  have lu := Int32.toInt_lt (z_ai M (n + 61) (x2 + 9).toNatClampNeg)
  have h9 : 0 < (z_ai M (n + 61) (15 * T + 9)).toInt := by rw [← N9]; omega
  have hh := h3 (rf_C7b J T h9)
  intro M48 e48
  have J48 := w_1585 J e48 (by omega) (by omega)
  exact z_nn_of (s_1593_40 J48.1) (And.intro (vp_of (L := 400) (s_l71 J48.1) (by omega) (by omega)) (t_X12_harms J48 (a_71 J48 _) (fun M52 J52 => t_ha181 hT hx J52 k)))
theorem t_ha78 {T : Nat} {x2 x3 x4 x5 : Int32} {Post : z_Mem → Prop} {K : Int32 → Int32 → Int32 → Int32 → z_Mem → Prop} (hT : T < 3600) (hx : x2.toInt = 15 * T) (h5 : 0 ≤ x5.toInt ∧ x5.toInt ≤ 3) (kj : ∀ y M1, y.toInt = x5.toInt - 1 → rf_J n t s q z M0 M1 → K x2 x3 x4 y M1) : ∀ (m : Nat) (x6 : Int32) (M : z_Mem), (400 - x6.toInt).toNat < m → 0 ≤ x6.toInt → rf_J n t s q z M0 M → P_X12_hearsAck_78 (n + 40) Post K m x2 x3 x4 x5 x6 M := by
  obtain ⟨r, hr⟩ : ∃ r : Nat, x5.toInt = r := ⟨x5.toInt.toNat, by omega⟩
  have hi := i_pos2 (T := T) hx (show (2 : Int32).toInt = (2 : Nat) from rfl) hr hT (by omega) (by decide)
  have N := i_nat hi
  have hv : ∀ {L : Nat}, L = 54000 → vp_in ((x2 + 2) + (2 * x5)) L := fun h => t_posv hi hT (by omega) h
  clear hi
  have m1 : (15 * T + (2 + 2 * r)) % 15 = 2 + 2 * r := by rw [Nat.mul_add_mod]; exact Nat.mod_eq_of_lt (by omega)
  have hb : ∀ M, rf_J n t s q z M0 M → 0 ≤ (z_ai M (n + 61) ((x2 + 2) + (2 * x5)).toNatClampNeg).toInt ∧ (z_ai M (n + 61) ((x2 + 2) + (2 * x5)).toNatClampNeg).toInt ≤ 399 := fun M J => by
    rw [N]; exact (rf_C7a J _).2 (by rw [m1]; omega)
  clear N m1
  intro m
  induction m with
  | zero => intro x6 M h; exact absurd h (Nat.not_lt_zero _)
  | succ m ih =>
    intro x6 M hm h0 J
    refine z_nn_of (s_1560_40 J.1) (And.intro (hv (s_l61 J.1)) (And.intro (fun _ => ?_) (fun c => ?_)))
    · intro y ey
      exact kj y M (by rw [ey]; exact i_addm1 (by omega) (by omega)) J
    · have c' := i_nlt c rfl rfl
      have b := hb M J
      refine t_X12_hearsOf J ⟨h0, by omega⟩ (fun M6 J6 => ?_)
      intro y ey
      have ty : y.toInt = x6.toInt + 1 := by rw [ey]; exact i_add1 (by omega) (by omega)
      exact ih y M6 (by omega) (by omega) J6
theorem t_ha58 {T : Nat} {x2 x3 x4 : Int32} {Post : z_Mem → Prop} (hT : T < 3600) (hx : x2.toInt = 15 * T) (h3 : 0 ≤ x3.toInt ∧ x3.toInt ≤ 399) (k : ∀ M1, rf_J n t s q z M0 M1 → Post M1) : ∀ (m : Nat) (x5 : Int32) (M : z_Mem), (x5.toInt + 1).toNat < m → -1 ≤ x5.toInt → x5.toInt ≤ 3 → rf_J n t s q z M0 M → P_X12_hearsAck_58 (n + 40) Post m x2 x3 x4 x5 M := by
  have T0 : (0 : Int32).toInt = 0 := rfl
  intro m
  induction m with
  | zero => intro x5 M h; exact absurd h (Nat.not_lt_zero _)
  | succ m ih =>
    intro x5 M hm h0 h1 J
    have hv3 : vp_in x3 (z_ln M (n + 71)) := vp_of (L := 400) (s_l71 J.1) h3.1 (by omega)
    have hv4 : vp_in x3 (z_ln M (n + 72)) := vp_of (L := 400) (s_l72 J.1) h3.1 (by omega)
    refine And.intro (fun _ => And.intro (fun _ => t_ha140 hT hx J (fun _ => h3) k) (fun _ => z_nn_of (s_1593_40 J.1) (And.intro hv3 (z_nn_of (s_1594_40 J.1) (And.intro hv4 ?_))))) (fun c => ?_)
    · refine t_X12_measures J (a_71 J _) ?_ (fun M62 J62 => t_ha140 hT hx J62 (fun _ => h3) k)
      have b1 := f_1536 J
      have b2 := rf_tk J x3.toNatClampNeg
      rw [i_subE (x := z_fi M 1536 (n + 40)) rfl rfl (by omega) (by omega)]
      omega
    · have c' := i_nlt c rfl T0
      obtain ⟨r, hr⟩ : ∃ r : Nat, x5.toInt = r := ⟨x5.toInt.toNat, by omega⟩
      have hi := i_pos2 (T := T) hx (show (1 : Int32).toInt = (1 : Nat) from rfl) hr hT (by omega) (by decide)
      have N := i_nat hi
      have hv : vp_in ((x2 + 1) + (2 * x5)) (z_ln M (n + 61)) := t_posv hi hT (by omega) (s_l61 J.1)
      clear hi
      have m1 : (15 * T + (1 + 2 * r)) % 15 = 1 + 2 * r := by rw [Nat.mul_add_mod]; exact Nat.mod_eq_of_lt (by omega)
      have hb : 0 ≤ (z_ai M (n + 61) ((x2 + 1) + (2 * x5)).toNatClampNeg).toInt ∧ (z_ai M (n + 61) ((x2 + 1) + (2 * x5)).toNatClampNeg).toInt ≤ 399 := by
        rw [N]; exact (rf_C7a J _).2 (by rw [m1]; omega)
      clear N m1
      refine z_nn_of (s_1560_40 J.1) (And.intro hv ?_)
      intro x66 e66
      exact ⟨_, t_ha78 hT hx ⟨by omega, h1⟩ (fun y M1 hy J1 => ih y M1 (by omega) (by omega) (by omega) J1) _ x66 M (Nat.lt_succ_self _) (by rw [e66]; exact hb.1) J⟩
theorem t_X12_hearsAck {p1 : Int32} {Post : z_Mem → Prop} (J : rf_J n t s q z M0 M) (h_p1 : 0 ≤ p1.toInt ∧ p1.toInt ≤ 3599) (k : ∀ M1, rf_J n t s q z M0 M1 → Post M1) : P_X12_hearsAck (n + 40) p1 M Post := by
  have T0 : (0 : Int32).toInt = 0 := rfl
  intro x e
  obtain ⟨T, hT⟩ : ∃ T : Nat, p1.toInt = T := ⟨p1.toInt.toNat, by omega⟩
  have hx : x.toInt = 15 * T := by rw [e]; exact i_mulE (show (15 : Int32).toInt = 15 from rfl) hT (by omega) (by omega)
  have hT1 : T < 3600 := by omega
  have N0 : x.toNatClampNeg = 15 * T := i_nat (by rw [hx]; omega)
  have hv : ∀ {L : Nat}, L = 54000 → vp_in x L := fun h => vp_of (L := 54000) h (by omega) (by omega)
  have b0 : 0 ≤ (z_ai M (n + 61) x.toNatClampNeg).toInt ∧ (z_ai M (n + 61) x.toNatClampNeg).toInt ≤ 4 := by
    rw [N0]; exact (rf_C7a J _).1 (by omega)
  have hi2 := i_posc (x1 := x) (T := T) hx (show (2 : Int32).toInt = (2 : Nat) from rfl) hT1 (by decide)
  have N2 : (x + 2).toNatClampNeg = 15 * T + 2 := i_nat hi2
  have hv2 : ∀ {L : Nat}, L = 54000 → vp_in (x + 2) L := fun h => t_posv hi2 hT1 (by decide) h
  have b2 : 0 ≤ (z_ai M (n + 61) (x + 2).toNatClampNeg).toInt ∧ (z_ai M (n + 61) (x + 2).toNatClampNeg).toInt ≤ 399 := by
    rw [N2]; exact (rf_C7a J _).2 (by omega)
  clear hi2 N2
  have ts : ∀ y, y = z_ai M (n + 61) x.toNatClampNeg - 1 → y.toInt = (z_ai M (n + 61) x.toNatClampNeg).toInt - 1 := fun y ey => by
    rw [ey]; exact i_subE rfl (show (1 : Int32).toInt = 1 from rfl) (by omega) (by omega)
  refine z_nn_of (s_1560_40 J.1) (And.intro (hv (s_l61 J.1)) (And.intro (fun c => ?_) (fun c => z_nn_of (s_1560_40 J.1) (And.intro (hv2 (s_l61 J.1)) ?_))))
  · have c' := i_le c rfl T0
    refine And.intro (fun _ => z_nn_of (s_1560_40 J.1) (And.intro (hv (s_l61 J.1)) ?_)) (fun h => absurd rfl h)
    intro y ey
    have ty := ts y ey
    refine ⟨1, And.intro (fun _ => And.intro (fun _ => t_ha140 hT1 hx J (fun h => ?_) k) (fun h => absurd rfl h)) (fun h => ?_)⟩
    · rw [N0] at c'; omega
    · have := i_nlt h rfl T0
      omega
  · have c' := i_nle c rfl T0
    have f46 : ∀ v : Int32, P_X12_hearsAck_46 (n + 40) Post x (z_ai M (n + 61) (x + 2).toNatClampNeg) v M := fun v => by
      refine z_nn_of (s_1560_40 J.1) (And.intro (hv (s_l61 J.1)) ?_)
      intro y ey
      have ty := ts y ey
      exact ⟨_, t_ha58 hT1 hx b2 k _ y M (Nat.lt_succ_self _) (by omega) (by omega) J⟩
    refine And.intro (fun _ => f46 0) (fun _ => z_nn_of (s_1598_40 J.1) (And.intro (vp_of (L := 400) (s_l76 J.1) b2.1 (by omega)) (And.intro (fun _ => f46 1) (fun _ => f46 0))))
end RFS
