/-! ===== THE REFERENCE: what leaves a queue ===== -/
section RFR
variable {n t s q z : Nat} {M0 M M1 M2 : z_Mem}
theorem t_lv33 {p Q m0 : Nat} {T : Int} {x1 x2 v : Int32} {g : Nat → Int32} {o : Nat → Int32} {Post : z_Mem → Prop} {Ms : z_Mem} (hp : p < 2) (h1 : x1.toInt = p) (h2 : x2.toInt = m0) (hQ : Q ≤ 30) (hm0 : m0 ≤ Q) (hv : v.toInt = T + 60) (ho : ∀ i, (o i).toInt.toNat ≤ 30) (hoQ : (o p).toInt = Q) (h0T : 0 ≤ T) (hT12 : T ≤ 1240) (k : ∀ M1, rf_J n (t + 60) (s + 60) (q + 60) z M1 M1 → rf_K2 n Ms M1 → Post M1) : ∀ (m : Nat) (x3 : Int32) (M : z_Mem), (m0 - x3.toInt).toNat < m → 0 ≤ x3.toInt → x3.toInt ≤ m0 → (z_fi M 1551 (n + 40)).toInt = T → ((z_fi M 1554 (n + 40)).toInt + ((rf_c (fun j => decide (¬ g (30 * p + j) = -1)) Q : Int) - (rf_c (fun j => decide (¬ g (30 * p + j) = -1)) x3.toInt.toNat : Int)) + (rf_c (fun j => decide (¬ g (30 * (1 - p) + j) = -1)) (o (1 - p)).toInt.toNat : Nat) ≤ T) → z_ai M (n + 50) = g → z_ai M (n + 51) = o → rf_K2 n Ms M → rf_J n t s q z (rf_sh n v M) (rf_sh n v M) → P_X12_leaves_33 (n + 40) Post m x1 x2 x3 M := by
  have hx : x1.toNatClampNeg = p := i_nat h1
  intro m
  induction m with
  | zero => intro x3 M h; exact absurd h (Nat.not_lt_zero _)
  | succ m ih =>
    intro x3 M hm h3 h3b hT hL h50 h51 K J
    have S : y_S n M := J.1
    have l54 : 0 ≤ (z_fi M 1554 (n + 40)).toInt := by
      have := (f_1554 J).1
      rw [rf_sh, rf_nf (by decide)] at this
      exact this
    obtain ⟨kk, hk⟩ : ∃ kk : Nat, x3.toInt = kk := ⟨x3.toInt.toNat, by omega⟩
    rw [show x3.toInt.toNat = kk by omega] at hL
    refine And.intro (fun c => ?_) (fun c => ?_)
    · have c' := i_le c rfl rfl
      have ek : kk = m0 := by omega
      subst ek
      exact ⟨_, t_lv157 (L := (z_fi M 1554 (n + 40)).toInt) hp h1 h2 hQ hm0 hv ho hoQ hL h0T k _ x2 M (Nat.lt_succ_self _) (by omega) (by omega) hT rfl h51 (fun i => by rw [h50, if_neg (by omega)]) K J⟩
    · have c' := i_nle c rfl rfl
      have hlem := rf_c_lem (p := fun j => decide (¬ g (30 * p + j) = -1)) (show kk + 1 ≤ Q by omega)
      have p1 := i_pq h1 hk hp (by omega)
      have N1 := i_nat p1
      have v1 : vp_in ((30 * x1) + x3) (z_ln M (n + 50)) := t_posq p1 (by omega) (s_l50 S)
      clear p1
      refine z_nn_of (s_1546_40 S) (And.intro v1 ?_)
      clear v1
      intro x51 e51
      rw [N1, h50] at e51
      clear N1
      have b50 := a_50 J (30 * p + kk)
      have b50' : -1 ≤ (g (30 * p + kk)).toInt ∧ (g (30 * p + kk)).toInt ≤ 1299 := by rw [← h50]; exact b50
      have nx : ∀ y, y = x3 + 1 → y.toInt = kk + 1 := fun y ey => by rw [ey, i_add1 (by omega) (by omega), hk]
      have hv2 : ∀ {L : Nat}, L = 2 → vp_in x1 L := fun h => vp_of (L := 2) h (by omega) (by omega)
      refine And.intro (fun c2 => ?_) (fun c2 => z_nn_of (s_1544_40 S) (And.intro (hv2 (s_l48 S)) ?_))
      · intro y ey
        have ty := nx y ey
        have es : rf_c (fun j => decide (¬ g (30 * p + j) = -1)) (kk + 1) = rf_c (fun j => decide (¬ g (30 * p + j) = -1)) kk := by
          show rf_c (fun j => decide (¬ g (30 * p + j) = -1)) kk + (if decide (¬ g (30 * p + kk) = -1) = true then 1 else 0) = _
          rw [if_neg (by rw [decide_eq_true_eq, ← e51]; exact fun h => h c2), Nat.add_zero]
        exact ih y M (by omega) (by omega) (by omega) hT (by rw [show y.toInt.toNat = kk + 1 by omega, es]; exact hL) h50 h51 K J
      · have c2' := i_ne c2 rfl (show (-1 : Int32).toInt = -1 from rfl)
        have ex : x51.toInt = (g (30 * p + kk)).toInt := by rw [e51]
        have es : rf_c (fun j => decide (¬ g (30 * p + j) = -1)) (kk + 1) = rf_c (fun j => decide (¬ g (30 * p + j) = -1)) kk + 1 := by
          show rf_c (fun j => decide (¬ g (30 * p + j) = -1)) kk + (if decide (¬ g (30 * p + kk) = -1) = true then 1 else 0) = _
          rw [if_pos (by rw [decide_eq_true_eq, ← e51]; exact c2)]
        have hl12 : (z_fi M 1554 (n + 40)).toInt + 1 ≤ T := by omega
        have f137 : ∀ (t2 t3 : Int32) (M14 : z_Mem), z_fi M14 = z_fi M → z_ai M14 (n + 50) = g → z_ai M14 (n + 51) = o → rf_K2 n Ms M14 → rf_J n t s q z (rf_sh n v M14) (rf_sh n v M14) → P_X12_leaves_137 (n + 40) Post (fun q0 q1 q2 qM => P_X12_leaves_33 (n + 40) Post m q0 q1 q2 qM) x1 x2 x3 (z_fr M14 1553 (n + 40)) (z_fi M14 1554 (n + 40)) t2 t3 M14 := fun t2 t3 M14 f14 g14 o14 K14 J14 => by
          have S14 : y_S n M14 := J14.1
          refine z_nn_of (s_1553_40 S14) (And.intro (vp_of (L := 1300) (s_l56 S14) (by rw [f14]; exact l54) (by rw [f14]; omega)) ?_)
          intro M4 e4
          have f4 : z_fi M4 = z_fi M := by rw [e4]; exact f14
          have T54 : (z_fi (rf_sh n v M14) 1554 (n + 40)).toInt = (z_fi M14 1554 (n + 40)).toInt := by rw [rf_sh, rf_nf (by decide)]
          have J4 : rf_J n t s q z (rf_sh n v M4) (rf_sh n v M4) := w_56g J14 (by rw [e4]; rfl) (by rw [T54, f14]; have := i_nat2 l54; omega)
          have U54 : (z_fi (rf_sh n v M4) 1554 (n + 40)).toInt = (z_fi M 1554 (n + 40)).toInt := by rw [rf_sh, rf_nf (by decide), f4]
          have U31 : (z_fi (rf_sh n v M4) 1551 (n + 40)).toInt = T + 60 := by rw [rf_sh, rf_ef]; exact hv
          intro M6 e6
          have tw : (z_fi M4 1554 (n + 40) + 1).toInt = (z_fi M 1554 (n + 40)).toInt + 1 := by rw [f4]; exact i_addE rfl (show (1 : Int32).toInt = 1 from rfl) (by omega) (by omega)
          have J6 : rf_J n t s q z (rf_sh n v M6) (rf_sh n v M6) := w_1554g J4 (by rw [e6]; exact rf_shf (by decide)) (by rw [tw, U54]) (by rw [tw, U31]; omega)
          intro y ey
          have ty := nx y ey
          refine ih y M6 (by omega) (by omega) (by omega) (by rw [e6, rf_nf (by decide), f4]; exact hT) ?_ (by rw [e6]; show z_ai M4 (n + 50) = g; rw [e4, rf_na (by decide)]; exact g14) (by rw [e6]; show z_ai M4 (n + 51) = o; rw [e4, rf_na (by decide)]; exact o14) (by rw [e6]; exact rf_K2f (by decide) (by decide) (by rw [e4]; exact rf_K2a (by decide) (by decide) (by decide) K14)) J6
          rw [e6, rf_ef, tw, show y.toInt.toNat = kk + 1 by omega, es]
          omega
        have f90 : ∀ (x5 t2 t3 : Int32), P_X12_leaves_90 (n + 40) Post (fun q0 q1 q2 qM => P_X12_leaves_33 (n + 40) Post m q0 q1 q2 qM) x1 x2 x3 x51 x5 (z_fr M 1544 (n + 40)) x1 t2 t3 M := fun x5 t2 t3 => by
          refine z_nn_of (s_1544_40 S) (And.intro (hv2 (s_l48 S)) ?_)
          intro M9 e9
          have f9 : z_fi M9 = z_fi M := by rw [e9]; rfl
          have J9 : rf_J n t s q z (rf_sh n v M9) (rf_sh n v M9) := rf_rf (w_sai J (by rw [e9]; rfl) (by decide +kernel))
          have S9 : y_S n M9 := J9.1
          refine z_nn_of (s_1552_40 S9) (And.intro (vp_of (L := 1300) (s_l55 S9) (by rw [f9]; exact l54) (by rw [f9]; omega)) ?_)
          intro M14 e14
          have J14 : rf_J n t s q z (rf_sh n v M14) (rf_sh n v M14) := rf_rf (w_55 J9 (by rw [e14]; rfl) (by omega) (by omega))
          have S14 : y_S n M14 := J14.1
          have g1 := f137 ((z_fi M14 1536 (n + 40)) + (z_ai M14 (n + 41) x1.toNatClampNeg))
          have f14 : z_fi M14 = z_fi M := by rw [e14]; exact f9
          have g14 : z_ai M14 (n + 50) = g := by rw [e14, rf_na (by decide), e9, rf_na (by decide)]; exact h50
          have o14 : z_ai M14 (n + 51) = o := by rw [e14, rf_na (by decide), e9, rf_na (by decide)]; exact h51
          have K14 : rf_K2 n Ms M14 := by
            rw [e14]; refine rf_K2a (by decide) (by decide) (by decide) ?_
            rw [e9]; exact rf_K2a (by decide) (by decide) (by decide) K
          exact z_nn_of (s_1537_40 S14) (And.intro (hv2 (s_l41 S14)) (And.intro (fun _ => g1 0 M14 f14 g14 o14 K14 J14) (fun _ => z_nn_of (s_1545_40 S14) (And.intro (hv2 (s_l49 S14)) (g1 _ M14 f14 g14 o14 K14 J14)))))
        have f71 : ∀ (x5 : Int32), P_X12_leaves_71 (n + 40) Post (fun q0 q1 q2 qM => P_X12_leaves_33 (n + 40) Post m q0 q1 q2 qM) x1 x2 x3 x51 x5 M := fun x5 =>
          z_nn_of (s_1544_40 S) (And.intro (hv2 (s_l48 S)) (And.intro (fun _ => f90 _ _ _) (fun _ => f90 _ _ _)))
        exact And.intro (fun _ => f71 _) (fun _ => f71 _)
theorem t_X12_leaves {p1 : Int32} {Post : z_Mem → Prop} (J : rf_J n (t + 60) (s + 60) (q + 60) z M0 M) (h_p1 : 0 ≤ p1.toInt ∧ p1.toInt ≤ 1) (k : ∀ M1, rf_J n (t + 60) (s + 60) (q + 60) z M1 M1 → rf_K2 n M M1 → Post M1) : P_X12_leaves (n + 40) p1 M Post := by
  obtain ⟨p, hp⟩ : ∃ p : Nat, p1.toInt = p := ⟨p1.toInt.toNat, by omega⟩
  have hx : p1.toNatClampNeg = p := i_nat hp
  have hv2 : ∀ {L : Nat}, L = 2 → vp_in p1 L := fun h => vp_of (L := 2) h (by omega) (by omega)
  have bq := a_51 J p
  have br := a_42 J p
  have c12 := (rf_C12a J).1
  have d0 := f_1551 J
  have d2 := f_1606 J
  have d3 := f_1580 J
  have d4 : (0 : Int) ≤ (if z_fi M 1579 (n + 40) = 0 then 1 else 0) := by split <;> decide
  obtain ⟨v, hv⟩ : ∃ v : Int32, v.toInt = (z_fi M 1551 (n + 40)).toInt + 60 := ⟨z_fi M 1551 (n + 40) + 60, i_addE rfl (show (60 : Int32).toInt = 60 from rfl) (by omega) (by omega)⟩
  have JS : rf_J n t s q z (rf_sh n v M) (rf_sh n v M) := rf_rf (w_1551up J rfl hv)
  have c11 := rf_C11p J
  have hL : (z_fi M 1554 (n + 40)).toInt + ((rf_c (fun j => decide (¬ z_ai M (n + 50) (30 * p + j) = -1)) (z_ai M (n + 51) p).toInt.toNat : Int) - (rf_c (fun j => decide (¬ z_ai M (n + 50) (30 * p + j) = -1)) 0 : Int)) + (rf_c (fun j => decide (¬ z_ai M (n + 50) (30 * (1 - p) + j) = -1)) (z_ai M (n + 51) (1 - p)).toInt.toNat : Nat) ≤ (z_fi M 1551 (n + 40)).toInt := by
    have e0 : rf_c (fun j => decide (¬ z_ai M (n + 50) (30 * p + j) = -1)) 0 = 0 := rfl
    have e2 : (z_fi M 1554 (n + 40)).toInt + (rf_Q n p M : Nat) + (rf_Q n (1 - p) M : Nat) ≤ (z_fi M 1551 (n + 40)).toInt := by
      rcases (show p = 0 ∨ p = 1 by omega) with e | e
      · subst e; exact c11
      · subst e
        have : (z_fi M 1554 (n + 40)).toInt + (rf_Q n 0 M : Nat) + (rf_Q n 1 M : Nat) ≤ (z_fi M 1551 (n + 40)).toInt := c11
        show (z_fi M 1554 (n + 40)).toInt + (rf_Q n 1 M : Nat) + (rf_Q n 0 M : Nat) ≤ (z_fi M 1551 (n + 40)).toInt
        omega
    unfold rf_Q at e2
    rw [e0]; omega
  have f30 : ∀ x2 : Int32, 0 ≤ x2.toInt → x2.toInt ≤ (z_ai M (n + 51) p).toInt → P_X12_leaves_30 (n + 40) Post p1 x2 M := fun x2 g0 g1 => by
    obtain ⟨m0, hm0⟩ : ∃ m0 : Nat, x2.toInt = m0 := ⟨x2.toInt.toNat, by omega⟩
    exact ⟨_, t_lv33 (p := p) (Q := (z_ai M (n + 51) p).toInt.toNat) (m0 := m0) (T := (z_fi M 1551 (n + 40)).toInt) (g := z_ai M (n + 50)) (o := z_ai M (n + 51)) (Ms := M) (by omega) hp hm0 (by omega) (by omega) hv (fun i => by have := a_51 J i; omega) (by omega) d0.1 (by omega) k _ 0 M (Nat.lt_succ_self _) (by decide) (by rw [show (0 : Int32).toInt = 0 from rfl]; omega) rfl hL rfl rfl rf_K2rf JS⟩
  refine z_nn_of (s_1547_40 J.1) (And.intro (hv2 (s_l51 J.1)) (z_nn_of (s_1538_40 J.1) (And.intro (hv2 (s_l42 J.1)) (And.intro (fun c => ?_) (fun c => ?_)))))
  · have c' := i_le c rfl rfl
    rw [hx] at c'
    exact z_nn_of (s_1538_40 J.1) (And.intro (hv2 (s_l42 J.1)) (f30 _ (by rw [hx]; exact br.1) (by rw [hx]; exact c')))
  · exact z_nn_of (s_1547_40 J.1) (And.intro (hv2 (s_l51 J.1)) (f30 _ (by rw [hx]; exact bq.1) (by rw [hx]; exact Int.le_refl _)))
end RFR
