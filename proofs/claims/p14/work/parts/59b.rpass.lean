/-! ===== THE REFERENCE: a tick ===== -/
section RFU
variable {n t s q z : Nat} {M0 M M1 Ms : z_Mem}
theorem t_pend {Post : z_Mem → Prop} (J : rf_J n (t + 60) (s + 60) (q + 60) z Ms M) (k : ∀ M1, rf_J n (t + 60) (s + 60) (q + 60) z M1 M1 → rf_K2 n Ms M1 → Post M1) : P_X12_sendsAll (n + 40) M (fun M_6 => (P_X12_leaves (n + 40) 0 M_6 fun M_7 => (P_X12_leaves (n + 40) 1 M_7 fun M_8 => (Post M_8)))) :=
  t_X12_sendsAll J (fun M6 J6 => t_X12_leaves J6 (by decide) (fun M7 J7 K7 => t_X12_leaves J7 (by decide) (fun M8 J8 K8 => k M8 J8 (rf_K2tr (rf_K2w J6.2.2) (rf_K2tr K7 K8)))))
theorem t_p235 {Post : z_Mem → Prop} (J : rf_J n (t + 60) (s + 60) (q + 60) z Ms M) (k : ∀ M1, rf_J n (t + 60) (s + 60) (q + 60) z M1 M1 → rf_K2 n Ms M1 → Post M1) : P_X12_passes_235 (n + 40) Post (some (n + 40)) M := by
  refine z_nn_of rfl ?_
  intro M5 e5
  rw [rf_same rfl] at e5
  rw [e5]
  exact t_pend J k
theorem t_p208 {Post : z_Mem → Prop} (J : rf_J n (t + 60) (s + 60) (q + 60) z Ms M) (k : ∀ M1, rf_J n (t + 60) (s + 60) (q + 60) z M1 M1 → rf_K2 n Ms M1 → Post M1) : P_X12_passes_208 (n + 40) Post M := by
  refine And.intro (fun _ => And.intro (fun _ => t_p235 J k) (fun _ => ?_)) (fun _ => t_p235 J k)
  intro M14 e14
  exact t_pend (w_1577 J e14 (by decide)) k
theorem t_p170 {Post : z_Mem → Prop} (J : rf_J n (t + 60) (s + 60) (q + 60) z Ms M) (k : ∀ M1, rf_J n (t + 60) (s + 60) (q + 60) z M1 M1 → rf_K2 n Ms M1 → Post M1) : P_X12_passes_170 (n + 40) Post M := by
  refine And.intro (fun c => And.intro (fun _ => t_p208 J k) (fun c2 => ?_)) (fun _ => t_p208 J k)
  have b := rf_iv J c
  have b1 := f_1536 J
  have b2 := f_1580 J
  have b3 := rf_hl J
  have c2' := i_nlt c2 (i_subE (x := z_fi M 1536 (n + 40)) (y := z_fi M 1580 (n + 40)) rfl rfl (by omega) (by omega)) rfl
  intro M25 e25
  have tv : (z_fi M 1581 (n + 40) * 2).toInt = (z_fi M 1581 (n + 40)).toInt * 2 := i_mulE rfl (show (2 : Int32).toInt = 2 from rfl) (by omega) (by omega)
  have J25 := w_1581 J e25 (by rw [tv]; omega) (by rw [tv]; omega)
  clear tv
  exact t_X12_saysHellot J25 (by rw [e25, rf_nf (by decide), rf_nf (by decide)]; omega) (fun M26 J26 => t_p208 J26 k)
theorem t_p150 {Post : z_Mem → Prop} (J : rf_J n (t + 60) (s + 60) (q + 60) z Ms M) (k : ∀ M1, rf_J n (t + 60) (s + 60) (q + 60) z M1 M1 → rf_K2 n Ms M1 → Post M1) : P_X12_passes_150 (n + 40) Post M :=
  t_X12_losesByTime J (by decide) (fun M27 J27 => t_X12_losesByTime J27 (by decide) (fun M28 J28 => t_X12_probesOn J28 (by decide) (fun M29 J29 => t_X12_probesOn J29 (by decide) (fun M30 J30 => t_p170 J30 k))))
theorem t_p134 {Post : z_Mem → Prop} (J : rf_J n (t + 60) (s + 60) (q + 60) z Ms M) (k : ∀ M1, rf_J n (t + 60) (s + 60) (q + 60) z M1 M1 → rf_K2 n Ms M1 → Post M1) : P_X12_passes_134 (n + 40) Post M :=
  And.intro (fun _ => t_p150 J k) (fun _ => And.intro (fun _ => t_p150 J k) (fun _ => t_p170 J k))
theorem t_p56 {x1 : Int32} {Post : z_Mem → Prop} (hx1 : x1.toInt ≤ 3600) (k : ∀ M1, rf_J n (t + 60) (s + 60) (q + 60) z M1 M1 → rf_K2 n Ms M1 → Post M1) : ∀ (m : Nat) (x2 : Int32) (M : z_Mem), (3600 - x2.toInt).toNat < m → 0 ≤ x2.toInt → rf_J n (t + 60) (s + 60 + 1) (q + 60 + 1) z Ms M → P_X12_passes_56 (n + 40) Post m x1 x2 M := by
  intro m
  induction m with
  | zero => intro x2 M h; exact absurd h (Nat.not_lt_zero _)
  | succ m ih =>
    intro x2 M hm h0 J
    have JW : rf_J n (t + 60) (s + 60) (q + 60) z Ms M := rf_w J (by omega) (by omega) (by omega) (by omega)
    refine And.intro (fun _ => And.intro (fun _ => And.intro (fun _ => t_p134 JW k) (fun c2 => ?_)) (fun _ => t_p134 JW k)) (fun c => ?_)
    · have b := f_1575 J
      have c2' := i_ne c2 rfl (show (-1 : Int32).toInt = -1 from rfl)
      have f130 : P_X12_passes_130 (n + 40) Post M := t_X12_acknowledges J (by omega) (fun M35 _ J35 => t_p134 J35 k)
      have f120 : P_X12_passes_120 (n + 40) Post M := And.intro (fun _ => f130) (fun _ => t_p134 JW k)
      exact And.intro (fun _ => f120) (fun _ => And.intro (fun _ => f130) (fun _ => f120))
    · have c' := i_nle c rfl rfl
      have ny : ∀ y, y = x2 + 1 → y.toInt = x2.toInt + 1 := fun y ey => by rw [ey]; exact i_add1 (by omega) (by omega)
      have go : ∀ M1, rf_J n (t + 60) (s + 60 + 1) (q + 60 + 1) z Ms M1 → P_X12_passes_79 (n + 40) Post (fun q0 q1 qM => P_X12_passes_56 (n + 40) Post m q0 q1 qM) x1 x2 M1 := fun M1 J1 y ey => by
        have ty := ny y ey
        exact ih y M1 (by omega) (by omega) J1
      refine z_nn_of (s_1558_40 J.1) (And.intro (vp_of (L := 3600) (s_l60 J.1) h0 (by omega)) (And.intro (fun _ => ?_) (fun _ => go M J)))
      exact t_X12_arrivesAtClient J ⟨h0, by omega⟩ (fun M53 J53 => go M53 J53)
theorem t_p12 {L : Nat} {v : Int32} {f : Nat → Int32} {Post : z_Mem → Prop} (hL : (z_fi Ms 1554 (n + 40)).toInt = L) (hL2 : L ≤ 1300) (hv : z_fi Ms 1536 (n + 40) = v) (hf : z_ai Ms (n + 56) = f) (k : ∀ M1, rf_J n (t + 60) (s + 60) (q + 60) z M1 M1 → rf_K2 n Ms M1 → Post M1) : ∀ (m : Nat) (x1 : Int32) (M : z_Mem), (1300 - x1.toInt).toNat < m → 0 ≤ x1.toInt → rf_J n (t + 60) (s + 60 + 1 + (rf_c (fun k => decide (f k = v)) L - rf_c (fun k => decide (f k = v)) x1.toInt.toNat)) (q + 60 + 1 + (rf_c (fun k => decide (f k = v)) L - rf_c (fun k => decide (f k = v)) x1.toInt.toNat)) z Ms M → P_X12_passes_12 (n + 40) Post m x1 M := by
  intro m
  induction m with
  | zero => intro x1 M h; exact absurd h (Nat.not_lt_zero _)
  | succ m ih =>
    intro x1 M hm h0 J
    obtain ⟨kk, hk⟩ : ∃ kk : Nat, x1.toInt = kk := ⟨x1.toInt.toNat, by omega⟩
    rw [show x1.toInt.toNat = kk by omega] at J
    have K := J.2.2
    have k54 : z_fi M 1554 (n + 40) = z_fi Ms 1554 (n + 40) := K.2.2.2.2.2.2.2.2.2.2 1554 (by decide)
    have k36 : z_fi M 1536 (n + 40) = v := (K.2.2.2.2.2.2.2.2.2.2 1536 (by decide)).trans hv
    have k56 : z_ai M (n + 56) = f := (K.2.2.2.2.2.2.2.2.2.1 56 (by decide)).trans hf
    refine And.intro (fun _ => ?_) (fun c => ?_)
    · intro x57 e57
      have b := f_1559 J
      exact ⟨_, t_p56 (by rw [e57]; exact b.2) k _ 0 M (Nat.lt_succ_self _) (by decide) (rf_w J (by omega) (by omega) (by omega) (by omega))⟩
    · have c' := i_nle c rfl rfl
      rw [k54] at c'
      have ny : ∀ y, y = x1 + 1 → y.toInt = kk + 1 := fun y ey => by rw [ey, i_add1 (by omega) (by omega), hk]
      have hN : x1.toNatClampNeg = kk := i_nat hk
      refine z_nn_of (s_1553_40 J.1) (And.intro (vp_of (L := 1300) (s_l56 J.1) h0 (by omega)) (And.intro (fun c2 => ?_) (fun c2 => ?_)))
      · rw [k56, k36, hN] at c2
        have es : rf_c (fun k => decide (f k = v)) (kk + 1) = rf_c (fun k => decide (f k = v)) kk + 1 := by
          show rf_c (fun k => decide (f k = v)) kk + (if decide (f kk = v) = true then 1 else 0) = _
          rw [if_pos (decide_eq_true c2)]
        have hl := rf_c_lem (p := fun k => decide (f k = v)) (show kk + 1 ≤ L by omega)
        obtain ⟨d, hd⟩ : ∃ d, rf_c (fun k => decide (f k = v)) L - rf_c (fun k => decide (f k = v)) kk = d + 1 := ⟨_, (Nat.succ_pred_eq_of_pos (show 0 < rf_c (fun k => decide (f k = v)) L - rf_c (fun k => decide (f k = v)) kk by omega)).symm⟩
        rw [hd] at J
        refine z_nn_of (s_1552_40 J.1) (And.intro (vp_of (L := 1300) (s_l55 J.1) h0 (by omega)) ?_)
        have b55 := a_55 J x1.toNatClampNeg
        refine t_X12_arrivesAtServer (s := s + 60 + 1 + d) (q := q + 60 + 1 + d) J b55 (fun M67 J67 => ?_)
        intro y ey
        have ty := ny y ey
        refine ih y M67 (by omega) (by omega) ?_
        rw [show y.toInt.toNat = kk + 1 by omega, es, show rf_c (fun k => decide (f k = v)) L - (rf_c (fun k => decide (f k = v)) kk + 1) = d by omega]
        exact J67
      · rw [k56, k36, hN] at c2
        have es : rf_c (fun k => decide (f k = v)) (kk + 1) = rf_c (fun k => decide (f k = v)) kk := by
          show rf_c (fun k => decide (f k = v)) kk + (if decide (f kk = v) = true then 1 else 0) = _
          rw [if_neg (by rw [decide_eq_true_eq]; exact c2), Nat.add_zero]
        intro y ey
        have ty := ny y ey
        refine ih y M (by omega) (by omega) ?_
        rw [show y.toInt.toNat = kk + 1 by omega, es]
        exact J
theorem t_X12_passes {Post : z_Mem → Prop} (J : rf_J n (t + 60) (s + 60) (q + 60) z M0 M) (hn : (z_fi M 1536 (n + 40)).toInt < 2000) (k : ∀ M1, rf_J n (t + 60) (s + 60) (q + 60) z M1 M1 → rf_K2 n (z_sfi M 1536 (n + 40) (z_fi M 1536 (n + 40) + 1)) M1 → Post M1) : P_X12_passes (n + 40) M Post := by
  intro M69 e69
  have b := f_1536 J
  have tv : (z_fi M 1536 (n + 40) + 1).toInt = (z_fi M 1536 (n + 40)).toInt + 1 := i_addE rfl (show (1 : Int32).toInt = 1 from rfl) (by omega) (by omega)
  have J69 := w_1536 J e69 tv (by rw [tv]; omega)
  have l := f_1554 J
  have e54 : z_fi M69 1554 (n + 40) = z_fi M 1554 (n + 40) := by rw [e69, rf_nf (by decide)]
  have e56 : z_ai M69 (n + 56) = z_ai M (n + 56) := by rw [e69]; rfl
  refine ⟨_, t_p12 (L := (z_fi M 1554 (n + 40)).toInt.toNat) (v := z_fi M 1536 (n + 40) + 1) (f := z_ai M (n + 56)) (Ms := M69) (by rw [e54]; omega) (by omega) (by rw [e69, rf_ef]) e56 (fun M1 J1 K1 => k M1 J1 (by rw [← e69]; exact K1)) _ 0 M69 (Nat.lt_succ_self _) (by decide) ?_⟩
  exact J69
end RFU
