/-! ===== THE REFERENCE: by hand (puts, ACK, growth) ===== -/
theorem rf_cubes {a b : Int} (h0 : 0 ≤ a) (h1 : 0 ≤ b) : a * a * a + b * b * b ≤ (a + b) * (a + b) * (a + b) := by
  have e : (a + b) * (a + b) * (a + b) = a * a * a + b * b * b + 3 * (a * a * b) + 3 * (a * b * b) := by grind
  have p1 : 0 ≤ a * a * b := Int.mul_nonneg (Int.mul_nonneg h0 h0) h1
  have p2 : 0 ≤ a * b * b := Int.mul_nonneg (Int.mul_nonneg h0 h1) h1
  omega
theorem i_tdivB {a d B : Int} (h0 : -B ≤ a) (h1 : a ≤ B) (hd : 1 ≤ d) : -B ≤ a.tdiv d ∧ a.tdiv d ≤ B := by
  have e : (a.tdiv d).natAbs = a.natAbs / d.natAbs := Int.natAbs_tdiv a d
  have l : a.natAbs / d.natAbs ≤ a.natAbs := Nat.div_le_self _ _
  omega
theorem i_256 {w : Int32} (h0 : 32 ≤ w.toInt) (h1 : w.toInt ≤ 200000000) : 0 ≤ (256 / w).toInt ∧ (256 / w).toInt ≤ 8 := by
  have e : (256 / w).toInt = 256 / w.toInt := i_divE (show (256 : Int32).toInt = 256 from rfl) rfl (by decide) (by omega)
  have g0 : 0 ≤ 256 / w.toInt := Int.ediv_nonneg (by decide) (by omega)
  have g1 : 256 / w.toInt * w.toInt ≤ 256 := Int.ediv_mul_le 256 (by omega)
  have g2 : 256 / w.toInt * 32 ≤ 256 / w.toInt * w.toInt := Int.mul_le_mul_of_nonneg_left h0 g0
  rw [e]; omega
section RFH
variable {n t s q z : Nat} {M0 M M1 M2 : z_Mem}
theorem rf_c_succ {p : Nat → Bool} {k : Nat} : rf_c p (k + 1) ≤ rf_c p k + 1 := by
  show rf_c p k + (if p k then 1 else 0) ≤ rf_c p k + 1
  split <;> omega
/-- an entry behind the queue's end -/
theorem w_50 {j p : Nat} {v : Int32} (J : rf_J n t s q z M0 M) (e : M1 = z_sai M (n + 50) j v) (h0 : -1 ≤ v.toInt) (h1 : v.toInt ≤ 1299) (hp : p < 2) (hq : (z_ai M (n + 51) p).toInt.toNat < 30) (hj : j = 30 * p + (z_ai M (n + 51) p).toInt.toNat) : rf_J n t s q z M0 M1 := by
  have a0 := a_51 J 0
  have a1 := a_51 J 1
  subst e
  obtain ⟨S, ⟨c1, c2, c3, c4, c5, c6, c7, c8, c9, c10, c11, c12⟩, K⟩ := J
  refine ⟨S, ⟨?_, c2, c3.congr (fun y hy => rf_na (by revert hy; revert y; decide)), c4.congr (fun y hy => rf_na (by revert hy; revert y; decide)) (fun _ _ => rfl), c5.congr (fun y hy => rf_na (by revert hy; revert y; decide)), c6.congr (fun y hy => rf_na (by revert hy; revert y; decide)) (fun _ _ => rfl), c7.congr (fun y hy => rf_na (by revert hy; revert y; decide)), c8.congr (fun y hy => rf_na (by revert hy; revert y; decide)) (fun _ _ => rfl), c9, c10.congr (fun y hy => rf_na (by revert hy; revert y; decide)), ?_, c12.congr (fun y hy => rf_na (by revert hy; revert y; decide)) (fun _ _ => rfl)⟩, rf_Ka (by decide) (by decide) (by decide) K⟩
  · intro r ht i
    by_cases h : r.1 = 50
    · have e1 : r = (50, -1, 1299) := by revert r; decide
      subst e1
      have g := c1 (50, -1, 1299) ht i
      dsimp only at g ⊢
      rw [rf_ea]
      split
      · exact ⟨h0, h1⟩
      · exact g
    · dsimp only
      rw [rf_na h]; exact c1 r ht i
  · unfold rf_C11 at c11 ⊢
    simp only [rf_na (show (51 : Nat) ≠ 50 by decide), zq_fi_sai] at c11 ⊢
    rw [rf_c_eq (p1 := fun k => decide (¬ z_ai (z_sai M (n + 50) j v) (n + 50) k = -1)) (p := fun k => decide (¬ z_ai M (n + 50) k = -1)) _ (fun k hk => ?_), rf_c_eq (p1 := fun k => decide (¬ z_ai (z_sai M (n + 50) j v) (n + 50) (30 + k) = -1)) (p := fun k => decide (¬ z_ai M (n + 50) (30 + k) = -1)) _ (fun k hk => ?_)]
    · exact c11
    · simp only [rf_ea]
      rw [if_neg]
      rcases (show p = 0 ∨ p = 1 by omega) with e | e
      · subst e; omega
      · subst e; omega
    · simp only [rf_ea]
      rw [if_neg]
      rcases (show p = 0 ∨ p = 1 by omega) with e | e
      · subst e; omega
      · subst e; omega
/-- one more in the queue, and one more thing -/
theorem w_51t {p : Nat} {v w : Int32} (J : rf_J n (t + 1) (s + 1) (q + 1) z M0 M) (e : M1 = z_sai M (n + 51) p v) (e2 : M2 = z_sfi M1 1551 (n + 40) w) (hp : p < 2) (hv : v.toInt = (z_ai M (n + 51) p).toInt + 1) (h30 : v.toInt ≤ 30) (hw : w.toInt = (z_fi M 1551 (n + 40)).toInt + 1) : rf_J n t s q z M0 M2 := by
  have a0 := a_51 J p
  have b0 := rf_thg J
  subst e
  subst e2
  obtain ⟨S, ⟨c1, c2, c3, c4, c5, c6, c7, c8, c9, c10, c11, c12⟩, K⟩ := J
  refine ⟨S, ⟨?_, ?_, c3.congr (fun y hy => rf_na (by revert hy; revert y; decide)), c4.congr (fun y hy => rf_na (by revert hy; revert y; decide)) (fun y hy => rf_nf (by revert hy; revert y; decide)), c5.congr (fun y hy => rf_na (by revert hy; revert y; decide)), c6.congr (fun y hy => rf_na (by revert hy; revert y; decide)) (fun y hy => rf_nf (by revert hy; revert y; decide)), c7.congr (fun y hy => rf_na (by revert hy; revert y; decide)), c8.congr (fun y hy => rf_na (by revert hy; revert y; decide)) (fun y hy => rf_nf (by revert hy; revert y; decide)), c9.congr (fun y hy => rf_nf (by revert hy; revert y; decide)), c10.congr (fun y hy => rf_na (by revert hy; revert y; decide)), ?_, ?_⟩, rf_Kf (by decide) (by decide) (rf_Ka (by decide) (by decide) (by decide) K)⟩
  · intro r ht i
    by_cases h : r.1 = 51
    · have e1 : r = (51, 0, 30) := by revert r; decide
      subst e1
      have g := c1 (51, 0, 30) ht i
      dsimp only at g ⊢
      show 0 ≤ (z_ai (z_sai M (n + 51) p v) (n + 51) i).toInt ∧ (z_ai (z_sai M (n + 51) p v) (n + 51) i).toInt ≤ 30
      rw [rf_ea]
      split
      · omega
      · exact g
    · show r.2.1 ≤ (z_ai (z_sai M (n + 51) p v) (n + r.1) i).toInt ∧ (z_ai (z_sai M (n + 51) p v) (n + r.1) i).toInt ≤ r.2.2
      rw [rf_na h]; exact c1 r ht i
  · intro r ht
    by_cases h : r.1 = 1551
    · have e1 : r = (1551, 0, 1300) := by revert r; decide
      subst e1
      dsimp only
      rw [rf_ef]; omega
    · dsimp only
      rw [rf_nf h]; exact c2 r ht
  · unfold rf_C11 at c11 ⊢
    have hw' : (z_fi (z_sfi (z_sai M (n + 51) p v) 1551 (n + 40) w) 1551 (n + 40)).toInt = (z_fi M 1551 (n + 40)).toInt + 1 := by rw [rf_ef]; exact hw
    simp only [hw']
    show (z_fi M 1554 (n + 40)).toInt + (rf_c (fun k => decide (¬ z_ai (z_sai M (n + 51) p v) (n + 50) k = -1)) (z_ai (z_sai M (n + 51) p v) (n + 51) 0).toInt.toNat : Nat) + (rf_c (fun k => decide (¬ z_ai (z_sai M (n + 51) p v) (n + 50) (30 + k) = -1)) (z_ai (z_sai M (n + 51) p v) (n + 51) 1).toInt.toNat : Nat) ≤ (z_fi M 1551 (n + 40)).toInt + 1
    simp only [rf_na (show (50 : Nat) ≠ 51 by decide), rf_ea] at c11 ⊢
    rcases (show p = 0 ∨ p = 1 by omega) with e | e
    · subst e
      rw [if_pos rfl, if_neg (by decide)]
      have e5 : v.toInt.toNat = (z_ai M (n + 51) 0).toInt.toNat + 1 := by omega
      have e6 := rf_c_succ (p := fun k => decide (¬ z_ai M (n + 50) k = -1)) (k := (z_ai M (n + 51) 0).toInt.toNat)
      rw [e5]; omega
    · subst e
      rw [if_neg (by decide), if_pos rfl]
      have e5 : v.toInt.toNat = (z_ai M (n + 51) 1).toInt.toNat + 1 := by omega
      have e6 := rf_c_succ (p := fun k => decide (¬ z_ai M (n + 50) (30 + k) = -1)) (k := (z_ai M (n + 51) 1).toInt.toNat)
      rw [e5]; omega
  · unfold rf_C12 at c12 ⊢
    have hw' : (z_fi (z_sfi (z_sai M (n + 51) p v) 1551 (n + 40) w) 1551 (n + 40)).toInt = (z_fi M 1551 (n + 40)).toInt + 1 := by rw [rf_ef]; exact hw
    simp only [hw', rf_nf (show (1536 : Nat) ≠ 1551 by decide), rf_nf (show (1554 : Nat) ≠ 1551 by decide), rf_nf (show (1559 : Nat) ≠ 1551 by decide), rf_nf (show (1561 : Nat) ≠ 1551 by decide), rf_nf (show (1579 : Nat) ≠ 1551 by decide), rf_nf (show (1580 : Nat) ≠ 1551 by decide), rf_nf (show (1606 : Nat) ≠ 1551 by decide), zq_fi_sai, zq_ai_sfi, rf_na (show (56 : Nat) ≠ 51 by decide)] at c12 ⊢
    omega
theorem t_X12_puts_111 {x1 x2 x3 : Int32} {Post : z_Mem → Prop} (J : rf_J n (t + 1) (s + 1) (q + 1) z M0 M) (h_x1 : 0 ≤ x1.toInt ∧ x1.toInt ≤ 1) (h_x3 : 0 ≤ x3.toInt ∧ x3.toInt ≤ 399) (h0 : x2 = 1 → x3.toInt ≤ 21) (h1 : (z_ai M (n + 51) x1.toNatClampNeg).toInt < 30) (k : ∀ M1, z_fi M1 1606 (n + 40) = z_fi M 1606 (n + 40) → rf_J n t s q z M0 M1 → Post M1) : P_X12_puts_111 (n + 40) Post x1 x2 x3 M := by
  have hx : x1.toNatClampNeg < 2 := i_natlt (by omega) (by omega)
  have b0 := rf_thg J
  have b1 := a_51 J x1.toNatClampNeg
  refine z_nn_of (s_1548_40 J.1) (And.intro (vp_of (L := 1300) (s_l52 J.1) b0.1 (by omega)) ?_)
  intro M5 e5
  have f5 : z_fi M5 = z_fi M := by rw [e5]; rfl
  have S5 : y_S n M5 := by rw [e5]; exact S_sai J.1
  refine z_nn_of (s_1549_40 S5) (And.intro (vp_of (L := 1300) (s_l53 S5) (by rw [f5]; exact b0.1) (by rw [f5]; omega)) ?_)
  intro M10 e10
  have J10 := w_5253 J e5 e10 (by rw [f5]) h_x3 h0
  have f10 : z_fi M10 = z_fi M := by rw [e10]; exact f5
  refine z_nn_of (s_1550_40 J10.1) (And.intro (vp_of (L := 1300) (s_l54 J10.1) (by rw [f10]; exact b0.1) (by rw [f10]; omega)) ?_)
  intro M15 e15
  have J15 := w_54 J10 e15 (by omega) (by omega)
  have f15 : z_fi M15 = z_fi M := by rw [e15]; exact f10
  have g15 : z_ai M15 (n + 51) = z_ai M (n + 51) := by
    rw [e15, rf_na (by decide), e10, rf_na (by decide), e5, rf_na (by decide)]
  refine z_nn_of (s_1547_40 J15.1) (And.intro (vp_of (L := 2) (s_l51 J15.1) (by omega) (by omega)) ?_)
  have ti : ((30 * x1) + (z_ai M15 (n + 51) x1.toNatClampNeg)).toInt = 30 * x1.toInt + (z_ai M (n + 51) x1.toNatClampNeg).toInt := by
    rw [g15]; exact i_addE (i_mulE (show (30 : Int32).toInt = 30 from rfl) rfl (by omega) (by omega)) rfl (by omega) (by omega)
  refine z_nn_of (s_1546_40 J15.1) (And.intro (vp_of (L := 60) (s_l50 J15.1) (by omega) (by omega)) ?_)
  intro M23 e23
  have J23 := w_50 (p := x1.toNatClampNeg) J15 e23 (by rw [f15]; omega) (by rw [f15]; omega) hx (by rw [g15]; omega) (by have := i_nat2 h_x1.1; refine i_nat ?_; rw [ti, g15]; omega)
  have g23 : z_ai M23 (n + 51) = z_ai M (n + 51) := by rw [e23, rf_na (by decide)]; exact g15
  have f23 : z_fi M23 = z_fi M := by rw [e23]; exact f15
  refine z_nn_of (s_1547_40 J23.1) (And.intro (vp_of (L := 2) (s_l51 J23.1) (by omega) (by omega)) (And.intro (vp_of (L := 2) (s_l51 J23.1) (by omega) (by omega)) ?_))
  intro M28 e28 M30 e30
  have f28 : z_fi M28 = z_fi M := by rw [e28]; exact f23
  have tv : (z_ai M23 (n + 51) x1.toNatClampNeg + 1).toInt = (z_ai M23 (n + 51) x1.toNatClampNeg).toInt + 1 := by rw [g23]; exact i_addE rfl (show (1 : Int32).toInt = 1 from rfl) (by omega) (by omega)
  refine k _ ?_ (w_51t (p := x1.toNatClampNeg) J23 e28 e30 hx tv (by rw [tv, g23]; omega) ?_)
  · rw [e30, rf_nf (by decide), f28]
  · rw [f28, f23]; exact i_addE rfl (show (1 : Int32).toInt = 1 from rfl) (by omega) (by omega)
theorem t_X12_harms_129 {x1 t3 : Int32} {Post : z_Mem → Prop} (J : rf_J n t s q z M0 M) (h_x1 : 0 ≤ x1.toInt ∧ x1.toInt ≤ 1) (h0 : t3.toInt ≤ (z_ai M (n + 84) x1.toNatClampNeg).toInt) (k : ∀ M1, rf_J n t s q z M0 M1 → Post M1) : P_X12_harms_129 (n + 40) Post x1 (z_fr M 1607 (n + 40)) x1 32 t3 M := by
  have hx : x1.toNatClampNeg < 2 := i_natlt (by omega) (by omega)
  have T32 : (32 : Int32).toInt = 32 := rfl
  refine t_X12_max J (fun r hr h1 h2 => z_nn_of (s_1607_40 J.1) (And.intro (vp_of (L := 2) (s_l84 J.1) (by omega) (by omega)) ?_))
  intro M4 e4
  have c6 := rf_C6a J hx
  have b := f_1536 J
  have hr' : r.toInt = 32 ∨ r.toInt = t3.toInt := by
    rcases hr with e | e
    · exact Or.inl (by rw [e]; rfl)
    · exact Or.inr (by rw [e])
  have J4 := w_84 J e4 (by omega) (by omega)
  refine z_nn_of (s_1607_40 J4.1) (And.intro (vp_of (L := 2) (s_l84 J4.1) (by omega) (by omega)) (z_nn_of (s_1608_40 J4.1) (And.intro (vp_of (L := 2) (s_l85 J4.1) (by omega) (by omega)) ?_)))
  intro M11 e11
  exact k _ (w_sai J4 e11 (by decide +kernel))
end RFH
