/-! ===== THE REFERENCE: special writes ===== -/
theorem rf_c_le {p : Nat → Bool} : ∀ k, rf_c p k ≤ k
  | 0 => Nat.le_refl _
  | k + 1 => by
    have := rf_c_le (p := p) k
    show rf_c p k + (if p k then 1 else 0) ≤ k + 1
    split <;> omega
theorem rf_c_eq {p p1 : Nat → Bool} : ∀ k, (∀ j, j < k → p1 j = p j) → rf_c p1 k = rf_c p k
  | 0, _ => rfl
  | k + 1, h => by
    show rf_c p1 k + (if p1 k then 1 else 0) = rf_c p k + (if p k then 1 else 0)
    rw [rf_c_eq k (fun j hj => h j (by omega)), h k (by omega)]
theorem rf_c_mono {p p1 : Nat → Bool} : ∀ k, (∀ j, j < k → p1 j = true → p j = true) → rf_c p1 k ≤ rf_c p k
  | 0, _ => Nat.le_refl _
  | k + 1, h => by
    have a := rf_c_mono k (fun j hj => h j (by omega))
    have b := h k (by omega)
    show rf_c p1 k + (if p1 k then 1 else 0) ≤ rf_c p k + (if p k then 1 else 0)
    by_cases c : p1 k = true
    · rw [if_pos c, if_pos (b c)]; omega
    · rw [if_neg c]; omega
theorem rf_c_off {p p1 : Nat → Bool} {i : Nat} (h0 : p i = true) (h1 : p1 i = false) : ∀ k, i < k → (∀ j, j < k → j ≠ i → p1 j = p j) → rf_c p1 k + 1 = rf_c p k
  | 0, hk, _ => by omega
  | k + 1, hk, h => by
    show rf_c p1 k + (if p1 k then 1 else 0) + 1 = rf_c p k + (if p k then 1 else 0)
    by_cases e : k = i
    · subst e
      rw [rf_c_eq k (fun j hj => h j (by omega) (by omega)), h0, h1]
      rfl
    · have := rf_c_off h0 h1 k (by omega) (fun j hj => h j (by omega))
      rw [h k (by omega) e]; omega
theorem rf_cube {a b : Int} (h0 : 0 ≤ a) (h1 : a ≤ b) : a * a * a ≤ b * b * b := by
  have h2 : a * a ≤ b * b := Int.mul_le_mul h1 h1 h0 (by omega)
  exact Int.mul_le_mul h2 h1 h0 (Int.mul_nonneg (by omega) (by omega))
section RFY
variable {n t s q z : Nat} {M0 M M1 : z_Mem}
theorem w_84 {j : Nat} {v : Int32} (J : rf_J n t s q z M0 M) (e : M1 = z_sai M (n + 84) j v) (h0 : 32 ≤ v.toInt) (h1 : 125 * v.toInt ≤ 3200000000 + 2000 * (z_ai M (n + 97) j).toInt + 2 * ((z_fi M 1536 (n + 40)).toInt * (z_fi M 1536 (n + 40)).toInt * (z_fi M 1536 (n + 40)).toInt)) : rf_J n t s q z M0 M1 := by
  subst e
  obtain ⟨S, ⟨c1, c2, c3, c4, c5, c6, c7, c8, c9, c10, c11, c12⟩, K⟩ := J
  refine ⟨S, ⟨?_, ?_, ?_, ?_, ?_, ?_, ?_, ?_, ?_, ?_, ?_, ?_⟩, rf_Ka (by decide) (by decide) (by decide) K⟩
  · exact c1.congr (fun y hy => rf_na (by revert hy; revert y; decide))
  · exact c2
  · exact c3.congr (fun y hy => rf_na (by revert hy; revert y; decide))
  · exact c4.congr (fun y hy => rf_na (by revert hy; revert y; decide)) (fun _ _ => rfl)
  · exact c5.congr (fun y hy => rf_na (by revert hy; revert y; decide))
  · unfold rf_C6 at c6 ⊢
    simp only [rf_na (show (76 : Nat) ≠ 84 by decide), rf_na (show (97 : Nat) ≠ 84 by decide), rf_na (show (99 : Nat) ≠ 84 by decide), rf_na (show (101 : Nat) ≠ 84 by decide), rf_na (show (103 : Nat) ≠ 84 by decide), rf_ea, zq_fi_sai, zq_ai_sfi] at c6 ⊢
    intro p hp
    obtain ⟨g1, g2, g3⟩ := c6 p hp
    by_cases e : p = j
    · subst e; simp only [if_pos]; exact ⟨h0, h1, g3⟩
    · simp only [if_neg e]; exact ⟨g1, g2, g3⟩
  · exact c7.congr (fun y hy => rf_na (by revert hy; revert y; decide))
  · exact c8.congr (fun y hy => rf_na (by revert hy; revert y; decide)) (fun _ _ => rfl)
  · exact c9
  · exact c10.congr (fun y hy => rf_na (by revert hy; revert y; decide))
  · exact c11.congr (fun y hy => rf_na (by revert hy; revert y; decide)) (fun _ _ => rfl)
  · exact c12.congr (fun y hy => rf_na (by revert hy; revert y; decide)) (fun _ _ => rfl)
theorem w_97 {j : Nat} {v : Int32} (J : rf_J n t s q (z + 1) M0 M) (e : M1 = z_sai M (n + 97) j v) (hj : j < 2) (hv : v.toInt = (z_ai M (n + 97) j).toInt + 1) : rf_J n t s q z M0 M1 := by
  subst e
  obtain ⟨S, ⟨c1, c2, c3, c4, c5, c6, c7, c8, c9, c10, c11, c12⟩, K⟩ := J
  have k0 := (c1 (97, 0, 400) (by decide) j).1
  have k1 := (c6 j hj).2.2.2.2.2.1
  dsimp only at k0 k1
  have h0 : 0 ≤ v.toInt := by omega
  have h1 : v.toInt ≤ 400 := by omega
  refine ⟨S, ⟨?_, ?_, ?_, ?_, ?_, ?_, ?_, ?_, ?_, ?_, ?_, ?_⟩, rf_Ka (by decide) (by decide) (by decide) K⟩
  · intro r ht i
    by_cases h : r.1 = 97
    · have e1 : r = (97, 0, 400) := by revert r; decide
      subst e1
      show 0 ≤ (z_ai (z_sai M (n + 97) j v) (n + 97) i).toInt ∧ (z_ai (z_sai M (n + 97) j v) (n + 97) i).toInt ≤ 400
      rw [rf_ea]
      split
      · exact ⟨h0, h1⟩
      · exact c1 (97, 0, 400) ht i
    · show r.2.1 ≤ (z_ai (z_sai M (n + 97) j v) (n + r.1) i).toInt ∧ (z_ai (z_sai M (n + 97) j v) (n + r.1) i).toInt ≤ r.2.2
      rw [rf_na h]; exact c1 r ht i
  · exact c2
  · exact c3.congr (fun y hy => rf_na (by revert hy; revert y; decide))
  · exact c4.congr (fun y hy => rf_na (by revert hy; revert y; decide)) (fun _ _ => rfl)
  · exact c5.congr (fun y hy => rf_na (by revert hy; revert y; decide))
  · unfold rf_C6 at c6 ⊢
    simp only [rf_na (show (76 : Nat) ≠ 97 by decide), rf_na (show (84 : Nat) ≠ 97 by decide), rf_na (show (99 : Nat) ≠ 97 by decide), rf_na (show (101 : Nat) ≠ 97 by decide), rf_na (show (103 : Nat) ≠ 97 by decide), rf_ea, zq_fi_sai, zq_ai_sfi] at c6 ⊢
    intro p hp
    have g := c6 p hp
    by_cases e : p = j
    · subst e; simp only [if_pos]; omega
    · simp only [if_neg e]; omega
  · exact c7.congr (fun y hy => rf_na (by revert hy; revert y; decide))
  · exact c8.congr (fun y hy => rf_na (by revert hy; revert y; decide)) (fun _ _ => rfl)
  · exact c9
  · exact c10.congr (fun y hy => rf_na (by revert hy; revert y; decide))
  · exact c11.congr (fun y hy => rf_na (by revert hy; revert y; decide)) (fun _ _ => rfl)
  · exact c12.congr (fun y hy => rf_na (by revert hy; revert y; decide)) (fun _ _ => rfl)
theorem w_99 {j : Nat} {v : Int32} (J : rf_J n t s q z M0 M) (e : M1 = z_sai M (n + 99) j v) (h0 : 0 ≤ v.toInt) (hv : v.toInt ≤ (z_ai M (n + 97) j).toInt) : rf_J n t s q z M0 M1 := by
  subst e
  obtain ⟨S, ⟨c1, c2, c3, c4, c5, c6, c7, c8, c9, c10, c11, c12⟩, K⟩ := J
  have k1 := (c1 (97, 0, 400) (by decide) j).2
  dsimp only at k1
  have h1 : v.toInt ≤ 400 := by omega
  refine ⟨S, ⟨?_, ?_, ?_, ?_, ?_, ?_, ?_, ?_, ?_, ?_, ?_, ?_⟩, rf_Ka (by decide) (by decide) (by decide) K⟩
  · intro r ht i
    by_cases h : r.1 = 99
    · have e1 : r = (99, 0, 400) := by revert r; decide
      subst e1
      show 0 ≤ (z_ai (z_sai M (n + 99) j v) (n + 99) i).toInt ∧ (z_ai (z_sai M (n + 99) j v) (n + 99) i).toInt ≤ 400
      rw [rf_ea]
      split
      · exact ⟨h0, h1⟩
      · exact c1 (99, 0, 400) ht i
    · show r.2.1 ≤ (z_ai (z_sai M (n + 99) j v) (n + r.1) i).toInt ∧ (z_ai (z_sai M (n + 99) j v) (n + r.1) i).toInt ≤ r.2.2
      rw [rf_na h]; exact c1 r ht i
  · exact c2
  · exact c3.congr (fun y hy => rf_na (by revert hy; revert y; decide))
  · exact c4.congr (fun y hy => rf_na (by revert hy; revert y; decide)) (fun _ _ => rfl)
  · exact c5.congr (fun y hy => rf_na (by revert hy; revert y; decide))
  · unfold rf_C6 at c6 ⊢
    simp only [rf_na (show (76 : Nat) ≠ 99 by decide), rf_na (show (84 : Nat) ≠ 99 by decide), rf_na (show (97 : Nat) ≠ 99 by decide), rf_na (show (101 : Nat) ≠ 99 by decide), rf_na (show (103 : Nat) ≠ 99 by decide), rf_ea, zq_fi_sai, zq_ai_sfi] at c6 ⊢
    intro p hp
    have g := c6 p hp
    by_cases e : p = j
    · subst e; simp only [if_pos]; omega
    · simp only [if_neg e]; omega
  · exact c7.congr (fun y hy => rf_na (by revert hy; revert y; decide))
  · exact c8.congr (fun y hy => rf_na (by revert hy; revert y; decide)) (fun _ _ => rfl)
  · exact c9
  · exact c10.congr (fun y hy => rf_na (by revert hy; revert y; decide))
  · exact c11.congr (fun y hy => rf_na (by revert hy; revert y; decide)) (fun _ _ => rfl)
  · exact c12.congr (fun y hy => rf_na (by revert hy; revert y; decide)) (fun _ _ => rfl)
theorem w_101 {j : Nat} {v : Int32} (J : rf_J n t s q z M0 M) (e : M1 = z_sai M (n + 101) j v) (hv : v.toInt = (z_fi M 1536 (n + 40)).toInt) : rf_J n t s q z M0 M1 := by
  subst e
  obtain ⟨S, ⟨c1, c2, c3, c4, c5, c6, c7, c8, c9, c10, c11, c12⟩, K⟩ := J
  have k1 := c2 (1536, 0, 2000) (by decide)
  dsimp only at k1
  refine ⟨S, ⟨?_, ?_, ?_, ?_, ?_, ?_, ?_, ?_, ?_, ?_, ?_, ?_⟩, rf_Ka (by decide) (by decide) (by decide) K⟩
  · exact c1.congr (fun y hy => rf_na (by revert hy; revert y; decide))
  · exact c2
  · exact c3.congr (fun y hy => rf_na (by revert hy; revert y; decide))
  · exact c4.congr (fun y hy => rf_na (by revert hy; revert y; decide)) (fun _ _ => rfl)
  · exact c5.congr (fun y hy => rf_na (by revert hy; revert y; decide))
  · unfold rf_C6 at c6 ⊢
    simp only [rf_na (show (76 : Nat) ≠ 101 by decide), rf_na (show (84 : Nat) ≠ 101 by decide), rf_na (show (97 : Nat) ≠ 101 by decide), rf_na (show (99 : Nat) ≠ 101 by decide), rf_na (show (103 : Nat) ≠ 101 by decide), rf_ea, zq_fi_sai, zq_ai_sfi] at c6 ⊢
    intro p hp
    have g := c6 p hp
    by_cases e : p = j
    · subst e; simp only [if_pos]
      have k := rf_cube g.2.2.1 g.2.2.2.1
      rw [hv]; omega
    · simp only [if_neg e]; exact g
  · exact c7.congr (fun y hy => rf_na (by revert hy; revert y; decide))
  · exact c8.congr (fun y hy => rf_na (by revert hy; revert y; decide)) (fun _ _ => rfl)
  · exact c9
  · exact c10.congr (fun y hy => rf_na (by revert hy; revert y; decide))
  · exact c11.congr (fun y hy => rf_na (by revert hy; revert y; decide)) (fun _ _ => rfl)
  · exact c12.congr (fun y hy => rf_na (by revert hy; revert y; decide)) (fun _ _ => rfl)
theorem w_103 {j : Nat} {v : Int32} (J : rf_J n t s q z M0 M) (e : M1 = z_sai M (n + 103) j v) (h1 : 125 * v.toInt ≤ 3200000000 + 2000 * (z_ai M (n + 97) j).toInt + 2 * ((z_ai M (n + 101) j).toInt * (z_ai M (n + 101) j).toInt * (z_ai M (n + 101) j).toInt)) : rf_J n t s q z M0 M1 := by
  subst e
  obtain ⟨S, ⟨c1, c2, c3, c4, c5, c6, c7, c8, c9, c10, c11, c12⟩, K⟩ := J
  refine ⟨S, ⟨?_, ?_, ?_, ?_, ?_, ?_, ?_, ?_, ?_, ?_, ?_, ?_⟩, rf_Ka (by decide) (by decide) (by decide) K⟩
  · exact c1.congr (fun y hy => rf_na (by revert hy; revert y; decide))
  · exact c2
  · exact c3.congr (fun y hy => rf_na (by revert hy; revert y; decide))
  · exact c4.congr (fun y hy => rf_na (by revert hy; revert y; decide)) (fun _ _ => rfl)
  · exact c5.congr (fun y hy => rf_na (by revert hy; revert y; decide))
  · unfold rf_C6 at c6 ⊢
    simp only [rf_na (show (76 : Nat) ≠ 103 by decide), rf_na (show (84 : Nat) ≠ 103 by decide), rf_na (show (97 : Nat) ≠ 103 by decide), rf_na (show (99 : Nat) ≠ 103 by decide), rf_na (show (101 : Nat) ≠ 103 by decide), rf_ea, zq_fi_sai, zq_ai_sfi] at c6 ⊢
    intro p hp
    obtain ⟨g1, g2, g3, g4, g5, g6⟩ := c6 p hp
    by_cases e : p = j
    · subst e; simp only [if_pos]; exact ⟨g1, g2, g3, g4, h1, g6⟩
    · simp only [if_neg e]; exact ⟨g1, g2, g3, g4, g5, g6⟩
  · exact c7.congr (fun y hy => rf_na (by revert hy; revert y; decide))
  · exact c8.congr (fun y hy => rf_na (by revert hy; revert y; decide)) (fun _ _ => rfl)
  · exact c9
  · exact c10.congr (fun y hy => rf_na (by revert hy; revert y; decide))
  · exact c11.congr (fun y hy => rf_na (by revert hy; revert y; decide)) (fun _ _ => rfl)
  · exact c12.congr (fun y hy => rf_na (by revert hy; revert y; decide)) (fun _ _ => rfl)
theorem w_76 {j : Nat} {v : Int32} (J : rf_J n t s q z M0 M) (e : M1 = z_sai M (n + 76) j v) (hv : ¬ v = 0) : rf_J n t s q z M0 M1 := by
  subst e
  obtain ⟨S, ⟨c1, c2, c3, c4, c5, c6, c7, c8, c9, c10, c11, c12⟩, K⟩ := J
  refine ⟨S, ⟨?_, ?_, ?_, ?_, ?_, ?_, ?_, ?_, ?_, ?_, ?_, ?_⟩, rf_Ka (by decide) (by decide) (by decide) K⟩
  · exact c1.congr (fun y hy => rf_na (by revert hy; revert y; decide))
  · exact c2
  · exact c3.congr (fun y hy => rf_na (by revert hy; revert y; decide))
  · exact c4.congr (fun y hy => rf_na (by revert hy; revert y; decide)) (fun _ _ => rfl)
  · exact c5.congr (fun y hy => rf_na (by revert hy; revert y; decide))
  · have hz : rf_c (fun k => decide (z_ai (z_sai M (n + 76) j v) (n + 76) k = 0)) 400 ≤ rf_c (fun k => decide (z_ai M (n + 76) k = 0)) 400 := rf_c_mono 400 (fun k _ h => by
        simp only [rf_ea, decide_eq_true_eq] at h ⊢
        split at h
        · exact absurd h hv
        · exact h)
    unfold rf_C6 at c6 ⊢
    simp only [rf_na (show (84 : Nat) ≠ 76 by decide), rf_na (show (97 : Nat) ≠ 76 by decide), rf_na (show (99 : Nat) ≠ 76 by decide), rf_na (show (101 : Nat) ≠ 76 by decide), rf_na (show (103 : Nat) ≠ 76 by decide), zq_fi_sai, zq_ai_sfi] at c6 ⊢
    intro p hp
    have g := c6 p hp
    omega
  · exact c7.congr (fun y hy => rf_na (by revert hy; revert y; decide))
  · exact c8.congr (fun y hy => rf_na (by revert hy; revert y; decide)) (fun _ _ => rfl)
  · exact c9
  · exact c10.congr (fun y hy => rf_na (by revert hy; revert y; decide))
  · exact c11.congr (fun y hy => rf_na (by revert hy; revert y; decide)) (fun _ _ => rfl)
  · exact c12.congr (fun y hy => rf_na (by revert hy; revert y; decide)) (fun _ _ => rfl)
theorem w_76z {j : Nat} {v : Int32} (J : rf_J n t s q z M0 M) (e : M1 = z_sai M (n + 76) j v) (hv : ¬ v = 0) (hj : j < 400) (ho : z_ai M (n + 76) j = 0) : rf_J n t s q (z + 1) M0 M1 := by
  subst e
  obtain ⟨S, ⟨c1, c2, c3, c4, c5, c6, c7, c8, c9, c10, c11, c12⟩, K⟩ := J
  refine ⟨S, ⟨?_, ?_, ?_, ?_, ?_, ?_, ?_, ?_, ?_, ?_, ?_, ?_⟩, rf_Ka (by decide) (by decide) (by decide) K⟩
  · exact c1.congr (fun y hy => rf_na (by revert hy; revert y; decide))
  · exact c2
  · exact c3.congr (fun y hy => rf_na (by revert hy; revert y; decide))
  · exact c4.congr (fun y hy => rf_na (by revert hy; revert y; decide)) (fun _ _ => rfl)
  · exact c5.congr (fun y hy => rf_na (by revert hy; revert y; decide))
  · have hz : rf_c (fun k => decide (z_ai (z_sai M (n + 76) j v) (n + 76) k = 0)) 400 + 1 = rf_c (fun k => decide (z_ai M (n + 76) k = 0)) 400 := rf_c_off (i := j) (by rw [ho]; rfl) (by simp only [rf_ea, if_pos]; exact decide_eq_false hv) 400 hj (fun k _ h => by simp only [rf_ea, if_neg h])
    unfold rf_C6 at c6 ⊢
    simp only [rf_na (show (84 : Nat) ≠ 76 by decide), rf_na (show (97 : Nat) ≠ 76 by decide), rf_na (show (99 : Nat) ≠ 76 by decide), rf_na (show (101 : Nat) ≠ 76 by decide), rf_na (show (103 : Nat) ≠ 76 by decide), zq_fi_sai, zq_ai_sfi] at c6 ⊢
    intro p hp
    have g := c6 p hp
    omega
  · exact c7.congr (fun y hy => rf_na (by revert hy; revert y; decide))
  · exact c8.congr (fun y hy => rf_na (by revert hy; revert y; decide)) (fun _ _ => rfl)
  · exact c9
  · exact c10.congr (fun y hy => rf_na (by revert hy; revert y; decide))
  · exact c11.congr (fun y hy => rf_na (by revert hy; revert y; decide)) (fun _ _ => rfl)
  · exact c12.congr (fun y hy => rf_na (by revert hy; revert y; decide)) (fun _ _ => rfl)
theorem w_72 {j : Nat} {v : Int32} (J : rf_J n t s q z M0 M) (e : M1 = z_sai M (n + 72) j v) (h0 : 0 ≤ v.toInt) (h1 : v.toInt ≤ (z_fi M 1536 (n + 40)).toInt) : rf_J n t s q z M0 M1 := by
  subst e
  obtain ⟨S, ⟨c1, c2, c3, c4, c5, c6, c7, c8, c9, c10, c11, c12⟩, K⟩ := J
  refine ⟨S, ⟨?_, ?_, ?_, ?_, ?_, ?_, ?_, ?_, ?_, ?_, ?_, ?_⟩, rf_Ka (by decide) (by decide) (by decide) K⟩
  · exact c1.congr (fun y hy => rf_na (by revert hy; revert y; decide))
  · exact c2
  · exact c3.congr (fun y hy => rf_na (by revert hy; revert y; decide))
  · unfold rf_C4 at c4 ⊢
    simp only [rf_ea, zq_fi_sai, zq_ai_sfi] at c4 ⊢
    intro k
    have g := c4 k
    split
    · exact ⟨h0, h1⟩
    · exact g
  · exact c5.congr (fun y hy => rf_na (by revert hy; revert y; decide))
  · exact c6.congr (fun y hy => rf_na (by revert hy; revert y; decide)) (fun _ _ => rfl)
  · exact c7.congr (fun y hy => rf_na (by revert hy; revert y; decide))
  · exact c8.congr (fun y hy => rf_na (by revert hy; revert y; decide)) (fun _ _ => rfl)
  · exact c9
  · exact c10.congr (fun y hy => rf_na (by revert hy; revert y; decide))
  · exact c11.congr (fun y hy => rf_na (by revert hy; revert y; decide)) (fun _ _ => rfl)
  · exact c12.congr (fun y hy => rf_na (by revert hy; revert y; decide)) (fun _ _ => rfl)
theorem w_67 {j : Nat} {v : Int32} (J : rf_J n t s q z M0 M) (e : M1 = z_sai M (n + 67) j v) (h0 : 0 ≤ v.toInt) (h1 : v.toInt ≤ 200) (hw : j < 4 → v.toInt ≤ (z_ai M (n + 66) j).toInt) : rf_J n t s q z M0 M1 := by
  subst e
  obtain ⟨S, ⟨c1, c2, c3, c4, c5, c6, c7, c8, c9, c10, c11, c12⟩, K⟩ := J
  refine ⟨S, ⟨?_, ?_, ?_, ?_, ?_, ?_, ?_, ?_, ?_, ?_, ?_, ?_⟩, rf_Ka (by decide) (by decide) (by decide) K⟩
  · intro r ht i
    by_cases h : r.1 = 67
    · have e1 : r = (67, 0, 200) := by revert r; decide
      subst e1
      show 0 ≤ (z_ai (z_sai M (n + 67) j v) (n + 67) i).toInt ∧ (z_ai (z_sai M (n + 67) j v) (n + 67) i).toInt ≤ 200
      rw [rf_ea]
      split
      · exact ⟨h0, h1⟩
      · exact c1 (67, 0, 200) ht i
    · show r.2.1 ≤ (z_ai (z_sai M (n + 67) j v) (n + r.1) i).toInt ∧ (z_ai (z_sai M (n + 67) j v) (n + r.1) i).toInt ≤ r.2.2
      rw [rf_na h]; exact c1 r ht i
  · exact c2
  · unfold rf_C3 at c3 ⊢
    simp only [rf_na (show (66 : Nat) ≠ 67 by decide), rf_ea, zq_fi_sai, zq_ai_sfi] at c3 ⊢
    intro k hk
    have g := c3 k hk
    split
    · rename_i e; rw [e]; exact hw (e ▸ hk)
    · exact g
  · exact c4.congr (fun y hy => rf_na (by revert hy; revert y; decide)) (fun _ _ => rfl)
  · exact c5.congr (fun y hy => rf_na (by revert hy; revert y; decide))
  · exact c6.congr (fun y hy => rf_na (by revert hy; revert y; decide)) (fun _ _ => rfl)
  · exact c7.congr (fun y hy => rf_na (by revert hy; revert y; decide))
  · exact c8.congr (fun y hy => rf_na (by revert hy; revert y; decide)) (fun _ _ => rfl)
  · exact c9
  · exact c10.congr (fun y hy => rf_na (by revert hy; revert y; decide))
  · exact c11.congr (fun y hy => rf_na (by revert hy; revert y; decide)) (fun _ _ => rfl)
  · exact c12.congr (fun y hy => rf_na (by revert hy; revert y; decide)) (fun _ _ => rfl)
theorem w_61 {j : Nat} {v : Int32} (J : rf_J n t s q z M0 M) (e : M1 = z_sai M (n + 61) j v) (ha : j % 15 = 0 → 0 ≤ v.toInt ∧ v.toInt ≤ 4) (hb : 1 ≤ j % 15 ∧ j % 15 ≤ 8 → 0 ≤ v.toInt ∧ v.toInt ≤ 399) (hc : ¬ j % 15 = 0 ∧ ¬ j % 15 = 9) : rf_J n t s q z M0 M1 := by
  subst e
  obtain ⟨S, ⟨c1, c2, c3, c4, c5, c6, c7, c8, c9, c10, c11, c12⟩, K⟩ := J
  refine ⟨S, ⟨?_, ?_, ?_, ?_, ?_, ?_, ?_, ?_, ?_, ?_, ?_, ?_⟩, rf_Ka (by decide) (by decide) (by decide) K⟩
  · exact c1.congr (fun y hy => rf_na (by revert hy; revert y; decide))
  · exact c2
  · exact c3.congr (fun y hy => rf_na (by revert hy; revert y; decide))
  · exact c4.congr (fun y hy => rf_na (by revert hy; revert y; decide)) (fun _ _ => rfl)
  · exact c5.congr (fun y hy => rf_na (by revert hy; revert y; decide))
  · exact c6.congr (fun y hy => rf_na (by revert hy; revert y; decide)) (fun _ _ => rfl)
  · unfold rf_C7 at c7 ⊢
    simp only [rf_ea, zq_fi_sai, zq_ai_sfi] at c7 ⊢
    refine ⟨fun i => ?_, fun w hw => ?_⟩
    · by_cases e : i = j
      · subst e; simp only [if_pos]; exact ⟨ha, hb⟩
      · simp only [if_neg e]; exact c7.1 i
    · have n0 : ¬ 15 * w = j := fun e => hc.1 (by omega)
      have n9 : ¬ 15 * w + 9 = j := fun e => hc.2 (by omega)
      rw [if_neg n9] at hw
      rw [if_neg n0]; exact c7.2 w hw
  · exact c8.congr (fun y hy => rf_na (by revert hy; revert y; decide)) (fun _ _ => rfl)
  · exact c9
  · exact c10.congr (fun y hy => rf_na (by revert hy; revert y; decide))
  · exact c11.congr (fun y hy => rf_na (by revert hy; revert y; decide)) (fun _ _ => rfl)
  · exact c12.congr (fun y hy => rf_na (by revert hy; revert y; decide)) (fun _ _ => rfl)
theorem w_63 {j : Nat} {v : Int32} (J : rf_J n t s q z M0 M) (e : M1 = z_sai M (n + 63) j v) (hv : ¬ v = 0) : rf_J n t s q z M0 M1 := by
  subst e
  obtain ⟨S, ⟨c1, c2, c3, c4, c5, c6, c7, c8, c9, c10, c11, c12⟩, K⟩ := J
  refine ⟨S, ⟨?_, ?_, ?_, ?_, ?_, ?_, ?_, ?_, ?_, ?_, ?_, ?_⟩, rf_Ka (by decide) (by decide) (by decide) K⟩
  · exact c1.congr (fun y hy => rf_na (by revert hy; revert y; decide))
  · exact c2
  · exact c3.congr (fun y hy => rf_na (by revert hy; revert y; decide))
  · exact c4.congr (fun y hy => rf_na (by revert hy; revert y; decide)) (fun _ _ => rfl)
  · exact c5.congr (fun y hy => rf_na (by revert hy; revert y; decide))
  · exact c6.congr (fun y hy => rf_na (by revert hy; revert y; decide)) (fun _ _ => rfl)
  · exact c7.congr (fun y hy => rf_na (by revert hy; revert y; decide))
  · unfold rf_C8 at c8 ⊢
    simp only [rf_ea, zq_fi_sai, zq_ai_sfi] at c8 ⊢
    intro h
    obtain ⟨k, hk, hn⟩ := c8 h
    refine ⟨k, hk, ?_⟩
    split
    · exact hv
    · exact hn
  · exact c9
  · exact c10.congr (fun y hy => rf_na (by revert hy; revert y; decide))
  · exact c11.congr (fun y hy => rf_na (by revert hy; revert y; decide)) (fun _ _ => rfl)
  · exact c12.congr (fun y hy => rf_na (by revert hy; revert y; decide)) (fun _ _ => rfl)
theorem w_1576 {v : Int32} (J : rf_J n t s q z M0 M) (e : M1 = z_sfi M 1576 (n + 40) v) (hv : 0 < v.toInt → ∃ k, k < 400 ∧ ¬ z_ai M (n + 63) k = 0) : rf_J n t s q z M0 M1 := by
  subst e
  obtain ⟨S, ⟨c1, c2, c3, c4, c5, c6, c7, c8, c9, c10, c11, c12⟩, K⟩ := J
  refine ⟨S, ⟨?_, ?_, ?_, ?_, ?_, ?_, ?_, ?_, ?_, ?_, ?_, ?_⟩, rf_Kf (by decide) (by decide) K⟩
  · exact c1
  · exact c2.congr (fun y hy => rf_nf (by revert hy; revert y; decide))
  · exact c3
  · exact c4.congr (fun _ _ => rfl) (fun y hy => rf_nf (by revert hy; revert y; decide))
  · exact c5
  · exact c6.congr (fun _ _ => rfl) (fun y hy => rf_nf (by revert hy; revert y; decide))
  · exact c7
  · unfold rf_C8 at c8 ⊢
    simp only [rf_ef, zq_fi_sai, zq_ai_sfi] at c8 ⊢
    exact hv
  · exact c9.congr (fun y hy => rf_nf (by revert hy; revert y; decide))
  · exact c10
  · exact c11.congr (fun _ _ => rfl) (fun y hy => rf_nf (by revert hy; revert y; decide))
  · exact c12.congr (fun _ _ => rfl) (fun y hy => rf_nf (by revert hy; revert y; decide))
theorem w_1577 {v : Int32} (J : rf_J n t s q z M0 M) (e : M1 = z_sfi M 1577 (n + 40) v) (hv : ¬ v = 1) : rf_J n t s q z M0 M1 := by
  subst e
  obtain ⟨S, ⟨c1, c2, c3, c4, c5, c6, c7, c8, c9, c10, c11, c12⟩, K⟩ := J
  refine ⟨S, ⟨?_, ?_, ?_, ?_, ?_, ?_, ?_, ?_, ?_, ?_, ?_, ?_⟩, rf_Kf (by decide) (by decide) K⟩
  · exact c1
  · exact c2.congr (fun y hy => rf_nf (by revert hy; revert y; decide))
  · exact c3
  · exact c4.congr (fun _ _ => rfl) (fun y hy => rf_nf (by revert hy; revert y; decide))
  · exact c5
  · exact c6.congr (fun _ _ => rfl) (fun y hy => rf_nf (by revert hy; revert y; decide))
  · exact c7
  · exact c8.congr (fun _ _ => rfl) (fun y hy => rf_nf (by revert hy; revert y; decide))
  · unfold rf_C9 at c9 ⊢
    simp only [rf_nf (show (1581 : Nat) ≠ 1577 by decide), rf_nf (show (1580 : Nat) ≠ 1577 by decide), rf_nf (show (1536 : Nat) ≠ 1577 by decide), rf_ef, zq_fi_sai, zq_ai_sfi] at c9 ⊢
    exact ⟨fun h => absurd h hv, c9.2⟩
  · exact c10
  · exact c11.congr (fun _ _ => rfl) (fun y hy => rf_nf (by revert hy; revert y; decide))
  · exact c12.congr (fun _ _ => rfl) (fun y hy => rf_nf (by revert hy; revert y; decide))
theorem w_1581 {v : Int32} (J : rf_J n t s q z M0 M) (e : M1 = z_sfi M 1581 (n + 40) v) (h0 : 10 ≤ v.toInt) (h1 : v.toInt ≤ 4000) : rf_J n t s q z M0 M1 := by
  subst e
  obtain ⟨S, ⟨c1, c2, c3, c4, c5, c6, c7, c8, c9, c10, c11, c12⟩, K⟩ := J
  refine ⟨S, ⟨?_, ?_, ?_, ?_, ?_, ?_, ?_, ?_, ?_, ?_, ?_, ?_⟩, rf_Kf (by decide) (by decide) K⟩
  · exact c1
  · exact c2.congr (fun y hy => rf_nf (by revert hy; revert y; decide))
  · exact c3
  · exact c4.congr (fun _ _ => rfl) (fun y hy => rf_nf (by revert hy; revert y; decide))
  · exact c5
  · exact c6.congr (fun _ _ => rfl) (fun y hy => rf_nf (by revert hy; revert y; decide))
  · exact c7
  · exact c8.congr (fun _ _ => rfl) (fun y hy => rf_nf (by revert hy; revert y; decide))
  · unfold rf_C9 at c9 ⊢
    simp only [rf_nf (show (1577 : Nat) ≠ 1581 by decide), rf_nf (show (1580 : Nat) ≠ 1581 by decide), rf_nf (show (1536 : Nat) ≠ 1581 by decide), rf_ef, zq_fi_sai, zq_ai_sfi] at c9 ⊢
    exact ⟨fun _ => ⟨h0, h1⟩, c9.2⟩
  · exact c10
  · exact c11.congr (fun _ _ => rfl) (fun y hy => rf_nf (by revert hy; revert y; decide))
  · exact c12.congr (fun _ _ => rfl) (fun y hy => rf_nf (by revert hy; revert y; decide))
theorem w_1580 {v : Int32} (J : rf_J n t s q z M0 M) (e : M1 = z_sfi M 1580 (n + 40) v) (hv : v.toInt = (z_fi M 1536 (n + 40)).toInt) : rf_J n t s q z M0 M1 := by
  subst e
  obtain ⟨S, ⟨c1, c2, c3, c4, c5, c6, c7, c8, c9, c10, c11, c12⟩, K⟩ := J
  have k1 := c2 (1536, 0, 2000) (by decide)
  dsimp only at k1
  have h0 : 0 ≤ v.toInt := by rw [hv]; exact k1.1
  have h1 : v.toInt ≤ 2000 := by rw [hv]; exact k1.2
  refine ⟨S, ⟨?_, ?_, ?_, ?_, ?_, ?_, ?_, ?_, ?_, ?_, ?_, ?_⟩, rf_Kf (by decide) (by decide) K⟩
  · exact c1
  · intro r ht
    by_cases h : r.1 = 1580
    · have e1 : r = (1580, 0, 2000) := by revert r; decide
      subst e1
      show 0 ≤ (z_fi (z_sfi M 1580 (n + 40) v) 1580 (n + 40)).toInt ∧ (z_fi (z_sfi M 1580 (n + 40) v) 1580 (n + 40)).toInt ≤ 2000
      rw [rf_ef]; exact ⟨h0, h1⟩
    · show r.2.1 ≤ (z_fi (z_sfi M 1580 (n + 40) v) r.1 (n + 40)).toInt ∧ (z_fi (z_sfi M 1580 (n + 40) v) r.1 (n + 40)).toInt ≤ r.2.2
      rw [rf_nf h]; exact c2 r ht
  · exact c3
  · exact c4.congr (fun _ _ => rfl) (fun y hy => rf_nf (by revert hy; revert y; decide))
  · exact c5
  · exact c6.congr (fun _ _ => rfl) (fun y hy => rf_nf (by revert hy; revert y; decide))
  · exact c7
  · exact c8.congr (fun _ _ => rfl) (fun y hy => rf_nf (by revert hy; revert y; decide))
  · unfold rf_C9 at c9 ⊢
    simp only [rf_nf (show (1577 : Nat) ≠ 1580 by decide), rf_nf (show (1581 : Nat) ≠ 1580 by decide), rf_nf (show (1536 : Nat) ≠ 1580 by decide), rf_ef, zq_fi_sai, zq_ai_sfi] at c9 ⊢
    exact ⟨c9.1, by rw [hv]; exact Int.le_refl _⟩
  · exact c10
  · exact c11.congr (fun _ _ => rfl) (fun y hy => rf_nf (by revert hy; revert y; decide))
  · unfold rf_C12 at c12 ⊢
    simp only [rf_nf (show (1536 : Nat) ≠ 1580 by decide), rf_nf (show (1551 : Nat) ≠ 1580 by decide), rf_nf (show (1554 : Nat) ≠ 1580 by decide), rf_nf (show (1559 : Nat) ≠ 1580 by decide), rf_nf (show (1561 : Nat) ≠ 1580 by decide), rf_nf (show (1579 : Nat) ≠ 1580 by decide), rf_nf (show (1606 : Nat) ≠ 1580 by decide), rf_ef, zq_fi_sai, zq_ai_sfi] at c12 ⊢
    have g9 := c9.2
    dsimp only at g9
    rw [hv]; omega
theorem w_1580t {v : Int32} (J : rf_J n t s q z M0 M) (e : M1 = z_sfi M 1580 (n + 40) v) (hv : v.toInt = (z_fi M 1536 (n + 40)).toInt) (ht : (z_fi M 1580 (n + 40)).toInt + 10 ≤ (z_fi M 1536 (n + 40)).toInt) : rf_J n (t + 1) (s + 1) (q + 1) z M0 M1 := by
  subst e
  obtain ⟨S, ⟨c1, c2, c3, c4, c5, c6, c7, c8, c9, c10, c11, c12⟩, K⟩ := J
  have k1 := c2 (1536, 0, 2000) (by decide)
  dsimp only at k1
  have h0 : 0 ≤ v.toInt := by rw [hv]; exact k1.1
  have h1 : v.toInt ≤ 2000 := by rw [hv]; exact k1.2
  refine ⟨S, ⟨?_, ?_, ?_, ?_, ?_, ?_, ?_, ?_, ?_, ?_, ?_, ?_⟩, rf_Kf (by decide) (by decide) K⟩
  · exact c1
  · intro r ht
    by_cases h : r.1 = 1580
    · have e1 : r = (1580, 0, 2000) := by revert r; decide
      subst e1
      show 0 ≤ (z_fi (z_sfi M 1580 (n + 40) v) 1580 (n + 40)).toInt ∧ (z_fi (z_sfi M 1580 (n + 40) v) 1580 (n + 40)).toInt ≤ 2000
      rw [rf_ef]; exact ⟨h0, h1⟩
    · show r.2.1 ≤ (z_fi (z_sfi M 1580 (n + 40) v) r.1 (n + 40)).toInt ∧ (z_fi (z_sfi M 1580 (n + 40) v) r.1 (n + 40)).toInt ≤ r.2.2
      rw [rf_nf h]; exact c2 r ht
  · exact c3
  · exact c4.congr (fun _ _ => rfl) (fun y hy => rf_nf (by revert hy; revert y; decide))
  · exact c5
  · exact c6.congr (fun _ _ => rfl) (fun y hy => rf_nf (by revert hy; revert y; decide))
  · exact c7
  · exact c8.congr (fun _ _ => rfl) (fun y hy => rf_nf (by revert hy; revert y; decide))
  · unfold rf_C9 at c9 ⊢
    simp only [rf_nf (show (1577 : Nat) ≠ 1580 by decide), rf_nf (show (1581 : Nat) ≠ 1580 by decide), rf_nf (show (1536 : Nat) ≠ 1580 by decide), rf_ef, zq_fi_sai, zq_ai_sfi] at c9 ⊢
    exact ⟨c9.1, by rw [hv]; exact Int.le_refl _⟩
  · exact c10
  · exact c11.congr (fun _ _ => rfl) (fun y hy => rf_nf (by revert hy; revert y; decide))
  · unfold rf_C12 at c12 ⊢
    simp only [rf_nf (show (1536 : Nat) ≠ 1580 by decide), rf_nf (show (1551 : Nat) ≠ 1580 by decide), rf_nf (show (1554 : Nat) ≠ 1580 by decide), rf_nf (show (1559 : Nat) ≠ 1580 by decide), rf_nf (show (1561 : Nat) ≠ 1580 by decide), rf_nf (show (1579 : Nat) ≠ 1580 by decide), rf_nf (show (1606 : Nat) ≠ 1580 by decide), rf_ef, zq_fi_sai, zq_ai_sfi] at c12 ⊢
    rw [hv]; omega
theorem w_1579 {v : Int32} (J : rf_J n t s q z M0 M) (e : M1 = z_sfi M 1579 (n + 40) v) (hv : ¬ v = 0) (h0 : 0 ≤ v.toInt) (h1 : v.toInt ≤ 1) (ho : z_fi M 1579 (n + 40) = 0) : rf_J n (t + 1) (s + 1) (q + 1) z M0 M1 := by
  subst e
  obtain ⟨S, ⟨c1, c2, c3, c4, c5, c6, c7, c8, c9, c10, c11, c12⟩, K⟩ := J
  refine ⟨S, ⟨?_, ?_, ?_, ?_, ?_, ?_, ?_, ?_, ?_, ?_, ?_, ?_⟩, rf_Kf (by decide) (by decide) K⟩
  · exact c1
  · intro r ht
    by_cases h : r.1 = 1579
    · have e1 : r = (1579, 0, 1) := by revert r; decide
      subst e1
      show 0 ≤ (z_fi (z_sfi M 1579 (n + 40) v) 1579 (n + 40)).toInt ∧ (z_fi (z_sfi M 1579 (n + 40) v) 1579 (n + 40)).toInt ≤ 1
      rw [rf_ef]; exact ⟨h0, h1⟩
    · show r.2.1 ≤ (z_fi (z_sfi M 1579 (n + 40) v) r.1 (n + 40)).toInt ∧ (z_fi (z_sfi M 1579 (n + 40) v) r.1 (n + 40)).toInt ≤ r.2.2
      rw [rf_nf h]; exact c2 r ht
  · exact c3
  · exact c4.congr (fun _ _ => rfl) (fun y hy => rf_nf (by revert hy; revert y; decide))
  · exact c5
  · exact c6.congr (fun _ _ => rfl) (fun y hy => rf_nf (by revert hy; revert y; decide))
  · exact c7
  · exact c8.congr (fun _ _ => rfl) (fun y hy => rf_nf (by revert hy; revert y; decide))
  · exact c9.congr (fun y hy => rf_nf (by revert hy; revert y; decide))
  · exact c10
  · exact c11.congr (fun _ _ => rfl) (fun y hy => rf_nf (by revert hy; revert y; decide))
  · unfold rf_C12 at c12 ⊢
    simp only [rf_nf (show (1536 : Nat) ≠ 1579 by decide), rf_nf (show (1551 : Nat) ≠ 1579 by decide), rf_nf (show (1554 : Nat) ≠ 1579 by decide), rf_nf (show (1559 : Nat) ≠ 1579 by decide), rf_nf (show (1561 : Nat) ≠ 1579 by decide), rf_nf (show (1580 : Nat) ≠ 1579 by decide), rf_nf (show (1606 : Nat) ≠ 1579 by decide), rf_ef, zq_fi_sai, zq_ai_sfi] at c12 ⊢
    rw [if_pos ho] at c12
    rw [if_neg hv]
    omega
theorem w_1606 {v : Int32} (J : rf_J n t s q z M0 M) (e : M1 = z_sfi M 1606 (n + 40) v) (hv : v.toInt = (z_fi M 1606 (n + 40)).toInt + 1) (h1 : v.toInt ≤ 400) : rf_J n (t + 1) (s + 1) (q + 1) z M0 M1 := by
  subst e
  obtain ⟨S, ⟨c1, c2, c3, c4, c5, c6, c7, c8, c9, c10, c11, c12⟩, K⟩ := J
  have k1 := c2 (1606, 0, 400) (by decide)
  dsimp only at k1
  have h0 : 0 ≤ v.toInt := by omega
  refine ⟨S, ⟨?_, ?_, ?_, ?_, ?_, ?_, ?_, ?_, ?_, ?_, ?_, ?_⟩, rf_Kf (by decide) (by decide) K⟩
  · exact c1
  · intro r ht
    by_cases h : r.1 = 1606
    · have e1 : r = (1606, 0, 400) := by revert r; decide
      subst e1
      show 0 ≤ (z_fi (z_sfi M 1606 (n + 40) v) 1606 (n + 40)).toInt ∧ (z_fi (z_sfi M 1606 (n + 40) v) 1606 (n + 40)).toInt ≤ 400
      rw [rf_ef]; exact ⟨h0, h1⟩
    · show r.2.1 ≤ (z_fi (z_sfi M 1606 (n + 40) v) r.1 (n + 40)).toInt ∧ (z_fi (z_sfi M 1606 (n + 40) v) r.1 (n + 40)).toInt ≤ r.2.2
      rw [rf_nf h]; exact c2 r ht
  · exact c3
  · exact c4.congr (fun _ _ => rfl) (fun y hy => rf_nf (by revert hy; revert y; decide))
  · exact c5
  · exact c6.congr (fun _ _ => rfl) (fun y hy => rf_nf (by revert hy; revert y; decide))
  · exact c7
  · exact c8.congr (fun _ _ => rfl) (fun y hy => rf_nf (by revert hy; revert y; decide))
  · exact c9.congr (fun y hy => rf_nf (by revert hy; revert y; decide))
  · exact c10
  · exact c11.congr (fun _ _ => rfl) (fun y hy => rf_nf (by revert hy; revert y; decide))
  · unfold rf_C12 at c12 ⊢
    simp only [rf_nf (show (1536 : Nat) ≠ 1606 by decide), rf_nf (show (1551 : Nat) ≠ 1606 by decide), rf_nf (show (1554 : Nat) ≠ 1606 by decide), rf_nf (show (1559 : Nat) ≠ 1606 by decide), rf_nf (show (1561 : Nat) ≠ 1606 by decide), rf_nf (show (1579 : Nat) ≠ 1606 by decide), rf_nf (show (1580 : Nat) ≠ 1606 by decide), rf_ef, zq_fi_sai, zq_ai_sfi] at c12 ⊢
    omega
theorem w_1559 {v : Int32} (J : rf_J n t (s + 1) q z M0 M) (e : M1 = z_sfi M 1559 (n + 40) v) (hv : v.toInt = (z_fi M 1559 (n + 40)).toInt + 1) : rf_J n t s q z M0 M1 := by
  subst e
  obtain ⟨S, ⟨c1, c2, c3, c4, c5, c6, c7, c8, c9, c10, c11, c12⟩, K⟩ := J
  have k0 := c2 (1551, 0, 1300) (by decide)
  have k1 := c2 (1536, 0, 2000) (by decide)
  have k2 := c2 (1606, 0, 400) (by decide)
  have k3 := c2 (1580, 0, 2000) (by decide)
  have k4 := c2 (1554, 0, 1300) (by decide)
  have k5 := c2 (1559, 0, 3600) (by decide)
  have k6 := c2 (1561, 0, 3600) (by decide)
  have k7 := c11
  unfold rf_C11 at k7
  have k8 := rf_c_le (p := fun k => decide ((z_ai M (n + 56) k).toInt ≤ (z_fi M 1536 (n + 40)).toInt)) (z_fi M 1554 (n + 40)).toInt.toNat
  have k9 := c12
  unfold rf_C12 at k9
  dsimp only at k0 k1 k2 k3 k4 k5 k6 k7 k9
  have k10 : (0 : Int) ≤ (if z_fi M 1579 (n + 40) = 0 then 1 else 0) := by split <;> decide
  have h0 : 0 ≤ v.toInt := by omega
  have h1 : v.toInt ≤ 3600 := by omega
  refine ⟨S, ⟨?_, ?_, ?_, ?_, ?_, ?_, ?_, ?_, ?_, ?_, ?_, ?_⟩, rf_Kf (by decide) (by decide) K⟩
  · exact c1
  · intro r ht
    by_cases h : r.1 = 1559
    · have e1 : r = (1559, 0, 3600) := by revert r; decide
      subst e1
      show 0 ≤ (z_fi (z_sfi M 1559 (n + 40) v) 1559 (n + 40)).toInt ∧ (z_fi (z_sfi M 1559 (n + 40) v) 1559 (n + 40)).toInt ≤ 3600
      rw [rf_ef]; exact ⟨h0, h1⟩
    · show r.2.1 ≤ (z_fi (z_sfi M 1559 (n + 40) v) r.1 (n + 40)).toInt ∧ (z_fi (z_sfi M 1559 (n + 40) v) r.1 (n + 40)).toInt ≤ r.2.2
      rw [rf_nf h]; exact c2 r ht
  · exact c3
  · exact c4.congr (fun _ _ => rfl) (fun y hy => rf_nf (by revert hy; revert y; decide))
  · exact c5
  · exact c6.congr (fun _ _ => rfl) (fun y hy => rf_nf (by revert hy; revert y; decide))
  · exact c7
  · exact c8.congr (fun _ _ => rfl) (fun y hy => rf_nf (by revert hy; revert y; decide))
  · exact c9.congr (fun y hy => rf_nf (by revert hy; revert y; decide))
  · exact c10
  · exact c11.congr (fun _ _ => rfl) (fun y hy => rf_nf (by revert hy; revert y; decide))
  · unfold rf_C12 at c12 ⊢
    simp only [rf_nf (show (1536 : Nat) ≠ 1559 by decide), rf_nf (show (1551 : Nat) ≠ 1559 by decide), rf_nf (show (1554 : Nat) ≠ 1559 by decide), rf_nf (show (1561 : Nat) ≠ 1559 by decide), rf_nf (show (1579 : Nat) ≠ 1559 by decide), rf_nf (show (1580 : Nat) ≠ 1559 by decide), rf_nf (show (1606 : Nat) ≠ 1559 by decide), rf_ef, zq_fi_sai, zq_ai_sfi] at c12 ⊢
    rw [hv]; omega
theorem w_1561 {v : Int32} (J : rf_J n t s (q + 1) z M0 M) (e : M1 = z_sfi M 1561 (n + 40) v) (hv : v.toInt = (z_fi M 1561 (n + 40)).toInt + 1) : rf_J n t s q z M0 M1 := by
  subst e
  obtain ⟨S, ⟨c1, c2, c3, c4, c5, c6, c7, c8, c9, c10, c11, c12⟩, K⟩ := J
  have k0 := c2 (1551, 0, 1300) (by decide)
  have k1 := c2 (1536, 0, 2000) (by decide)
  have k2 := c2 (1606, 0, 400) (by decide)
  have k3 := c2 (1580, 0, 2000) (by decide)
  have k4 := c2 (1554, 0, 1300) (by decide)
  have k5 := c2 (1559, 0, 3600) (by decide)
  have k6 := c2 (1561, 0, 3600) (by decide)
  have k7 := c11
  unfold rf_C11 at k7
  have k8 := rf_c_le (p := fun k => decide ((z_ai M (n + 56) k).toInt ≤ (z_fi M 1536 (n + 40)).toInt)) (z_fi M 1554 (n + 40)).toInt.toNat
  have k9 := c12
  unfold rf_C12 at k9
  dsimp only at k0 k1 k2 k3 k4 k5 k6 k7 k9
  have k10 : (0 : Int) ≤ (if z_fi M 1579 (n + 40) = 0 then 1 else 0) := by split <;> decide
  have h0 : 0 ≤ v.toInt := by omega
  have h1 : v.toInt ≤ 3600 := by omega
  refine ⟨S, ⟨?_, ?_, ?_, ?_, ?_, ?_, ?_, ?_, ?_, ?_, ?_, ?_⟩, rf_Kf (by decide) (by decide) K⟩
  · exact c1
  · intro r ht
    by_cases h : r.1 = 1561
    · have e1 : r = (1561, 0, 3600) := by revert r; decide
      subst e1
      show 0 ≤ (z_fi (z_sfi M 1561 (n + 40) v) 1561 (n + 40)).toInt ∧ (z_fi (z_sfi M 1561 (n + 40) v) 1561 (n + 40)).toInt ≤ 3600
      rw [rf_ef]; exact ⟨h0, h1⟩
    · show r.2.1 ≤ (z_fi (z_sfi M 1561 (n + 40) v) r.1 (n + 40)).toInt ∧ (z_fi (z_sfi M 1561 (n + 40) v) r.1 (n + 40)).toInt ≤ r.2.2
      rw [rf_nf h]; exact c2 r ht
  · exact c3
  · exact c4.congr (fun _ _ => rfl) (fun y hy => rf_nf (by revert hy; revert y; decide))
  · exact c5
  · exact c6.congr (fun _ _ => rfl) (fun y hy => rf_nf (by revert hy; revert y; decide))
  · exact c7
  · exact c8.congr (fun _ _ => rfl) (fun y hy => rf_nf (by revert hy; revert y; decide))
  · exact c9.congr (fun y hy => rf_nf (by revert hy; revert y; decide))
  · exact c10
  · exact c11.congr (fun _ _ => rfl) (fun y hy => rf_nf (by revert hy; revert y; decide))
  · unfold rf_C12 at c12 ⊢
    simp only [rf_nf (show (1536 : Nat) ≠ 1561 by decide), rf_nf (show (1551 : Nat) ≠ 1561 by decide), rf_nf (show (1554 : Nat) ≠ 1561 by decide), rf_nf (show (1559 : Nat) ≠ 1561 by decide), rf_nf (show (1579 : Nat) ≠ 1561 by decide), rf_nf (show (1580 : Nat) ≠ 1561 by decide), rf_nf (show (1606 : Nat) ≠ 1561 by decide), rf_ef, zq_fi_sai, zq_ai_sfi] at c12 ⊢
    rw [hv]; omega
theorem w_5253 {M2 : z_Mem} {j i : Nat} {v w : Int32} (J : rf_J n t s q z M0 M) (e : M1 = z_sai M (n + 52) j v) (e2 : M2 = z_sai M1 (n + 53) i w) (hi : i = j) (hw : 0 ≤ w.toInt ∧ w.toInt ≤ 399) (hh : v = 1 → w.toInt ≤ 21) : rf_J n t s q z M0 M2 := by
  subst e
  subst e2
  obtain ⟨S, ⟨c1, c2, c3, c4, c5, c6, c7, c8, c9, c10, c11, c12⟩, K⟩ := J
  refine ⟨S, ⟨?_, ?_, ?_, ?_, ?_, ?_, ?_, ?_, ?_, ?_, ?_, ?_⟩, rf_Ka (by decide) (by decide) (by decide) (rf_Ka (by decide) (by decide) (by decide) K)⟩
  · intro r ht k
    by_cases hy : r.1 = 53
    · have e1 : r = (53, 0, 399) := by revert r; decide
      subst e1
      have g := c1 (53, 0, 399) ht k
      dsimp only at g ⊢
      rw [rf_ea, rf_na (show (53 : Nat) ≠ 52 by decide)]
      split
      · exact hw
      · exact g
    · by_cases hx : r.1 = 52
      · exact absurd hx (by revert r; decide)
      · dsimp only
        rw [rf_na hy, rf_na hx]
        exact c1 r ht k
  · exact c2
  · exact c3.congr (fun k hk => (rf_na (by revert hk; revert k; decide)).trans (rf_na (by revert hk; revert k; decide)))
  · exact c4.congr (fun k hk => (rf_na (by revert hk; revert k; decide)).trans (rf_na (by revert hk; revert k; decide))) (fun _ _ => rfl)
  · exact c5.congr (fun k hk => (rf_na (by revert hk; revert k; decide)).trans (rf_na (by revert hk; revert k; decide)))
  · exact c6.congr (fun k hk => (rf_na (by revert hk; revert k; decide)).trans (rf_na (by revert hk; revert k; decide))) (fun _ _ => rfl)
  · exact c7.congr (fun k hk => (rf_na (by revert hk; revert k; decide)).trans (rf_na (by revert hk; revert k; decide)))
  · exact c8.congr (fun k hk => (rf_na (by revert hk; revert k; decide)).trans (rf_na (by revert hk; revert k; decide))) (fun _ _ => rfl)
  · exact c9
  · unfold rf_C10 at c10 ⊢
    simp only [rf_ea, rf_na (show (52 : Nat) ≠ 53 by decide), rf_na (show (53 : Nat) ≠ 52 by decide)] at c10 ⊢
    intro k hk
    by_cases ek : k = j
    · subst ek
      rw [if_pos rfl] at hk
      rw [hi, if_pos rfl]
      exact hh hk
    · rw [if_neg ek] at hk
      rw [hi, if_neg ek]
      exact c10 k hk
  · exact c11.congr (fun k hk => (rf_na (by revert hk; revert k; decide)).trans (rf_na (by revert hk; revert k; decide))) (fun _ _ => rfl)
  · exact c12.congr (fun k hk => (rf_na (by revert hk; revert k; decide)).trans (rf_na (by revert hk; revert k; decide))) (fun _ _ => rfl)
theorem w_7475 {M2 : z_Mem} {j i : Nat} {v w : Int32} (J : rf_J n t s q z M0 M) (e : M1 = z_sai M (n + 74) j v) (e2 : M2 = z_sai M1 (n + 75) i w) (hi : i = j) (hv : 0 ≤ v.toInt ∧ v.toInt ≤ 200) (hw : 0 ≤ w.toInt ∧ w.toInt ≤ 200) (hh : v.toInt + w.toInt ≤ 200) : rf_J n t s q z M0 M2 := by
  subst e
  subst e2
  obtain ⟨S, ⟨c1, c2, c3, c4, c5, c6, c7, c8, c9, c10, c11, c12⟩, K⟩ := J
  refine ⟨S, ⟨?_, ?_, ?_, ?_, ?_, ?_, ?_, ?_, ?_, ?_, ?_, ?_⟩, rf_Ka (by decide) (by decide) (by decide) (rf_Ka (by decide) (by decide) (by decide) K)⟩
  · intro r ht k
    by_cases hy : r.1 = 75
    · have e1 : r = (75, 0, 200) := by revert r; decide
      subst e1
      have g := c1 (75, 0, 200) ht k
      dsimp only at g ⊢
      rw [rf_ea, rf_na (show (75 : Nat) ≠ 74 by decide)]
      split
      · exact hw
      · exact g
    · by_cases hx : r.1 = 74
      · have e1 : r = (74, 0, 200) := by revert r; decide
        subst e1
        have g := c1 (74, 0, 200) ht k
        dsimp only at g ⊢
        rw [rf_na (show (74 : Nat) ≠ 75 by decide), rf_ea]
        split
        · exact hv
        · exact g
      · dsimp only
        rw [rf_na hy, rf_na hx]
        exact c1 r ht k
  · exact c2
  · exact c3.congr (fun k hk => (rf_na (by revert hk; revert k; decide)).trans (rf_na (by revert hk; revert k; decide)))
  · exact c4.congr (fun k hk => (rf_na (by revert hk; revert k; decide)).trans (rf_na (by revert hk; revert k; decide))) (fun _ _ => rfl)
  · unfold rf_C5 at c5 ⊢
    simp only [rf_ea, rf_na (show (74 : Nat) ≠ 75 by decide), rf_na (show (75 : Nat) ≠ 74 by decide)] at c5 ⊢
    intro k
    have g := c5 k
    by_cases ek : k = j
    · rw [hi, if_pos ek, if_pos ek]; exact hh
    · rw [hi, if_neg ek, if_neg ek]; exact g
  · exact c6.congr (fun k hk => (rf_na (by revert hk; revert k; decide)).trans (rf_na (by revert hk; revert k; decide))) (fun _ _ => rfl)
  · exact c7.congr (fun k hk => (rf_na (by revert hk; revert k; decide)).trans (rf_na (by revert hk; revert k; decide)))
  · exact c8.congr (fun k hk => (rf_na (by revert hk; revert k; decide)).trans (rf_na (by revert hk; revert k; decide))) (fun _ _ => rfl)
  · exact c9
  · exact c10.congr (fun k hk => (rf_na (by revert hk; revert k; decide)).trans (rf_na (by revert hk; revert k; decide)))
  · exact c11.congr (fun k hk => (rf_na (by revert hk; revert k; decide)).trans (rf_na (by revert hk; revert k; decide))) (fun _ _ => rfl)
  · exact c12.congr (fun k hk => (rf_na (by revert hk; revert k; decide)).trans (rf_na (by revert hk; revert k; decide))) (fun _ _ => rfl)
theorem w_61two {M2 : z_Mem} {j i : Nat} {v w : Int32} (J : rf_J n t s q z M0 M) (e : M1 = z_sai M (n + 61) j v) (e2 : M2 = z_sai M1 (n + 61) i w) {T : Nat} (hj : j = 15 * T) (hi : i = 15 * T + 9) (hv : 0 ≤ v.toInt ∧ v.toInt ≤ 4) (hh : 0 < w.toInt → 0 < v.toInt) : rf_J n t s q z M0 M2 := by
  subst e
  subst e2
  obtain ⟨S, ⟨c1, c2, c3, c4, c5, c6, c7, c8, c9, c10, c11, c12⟩, K⟩ := J
  refine ⟨S, ⟨?_, ?_, ?_, ?_, ?_, ?_, ?_, ?_, ?_, ?_, ?_, ?_⟩, rf_Ka (by decide) (by decide) (by decide) (rf_Ka (by decide) (by decide) (by decide) K)⟩
  · exact c1.congr (fun k hk => (rf_na (by revert hk; revert k; decide)).trans (rf_na (by revert hk; revert k; decide)))
  · exact c2
  · exact c3.congr (fun k hk => (rf_na (by revert hk; revert k; decide)).trans (rf_na (by revert hk; revert k; decide)))
  · exact c4.congr (fun k hk => (rf_na (by revert hk; revert k; decide)).trans (rf_na (by revert hk; revert k; decide))) (fun _ _ => rfl)
  · exact c5.congr (fun k hk => (rf_na (by revert hk; revert k; decide)).trans (rf_na (by revert hk; revert k; decide)))
  · exact c6.congr (fun k hk => (rf_na (by revert hk; revert k; decide)).trans (rf_na (by revert hk; revert k; decide))) (fun _ _ => rfl)
  · unfold rf_C7 at c7 ⊢
    simp only [rf_ea] at c7 ⊢
    subst hj
    subst hi
    refine ⟨fun k => ?_, fun u hu => ?_⟩
    · have g := c7.1 k
      by_cases e9 : k = 15 * T + 9
      · rw [if_pos e9]; exact ⟨fun h => by omega, fun h => by omega⟩
      · rw [if_neg e9]
        by_cases e0 : k = 15 * T
        · rw [if_pos e0]; exact ⟨fun _ => hv, fun h => by omega⟩
        · rw [if_neg e0]; exact g
    · by_cases e : u = T
      · subst e
        rw [if_pos rfl] at hu
        rw [if_neg (by omega), if_pos rfl]
        exact hh hu
      · rw [if_neg (by omega), if_neg (by omega)] at hu
        rw [if_neg (by omega), if_neg (by omega)]
        exact c7.2 u hu
  · exact c8.congr (fun k hk => (rf_na (by revert hk; revert k; decide)).trans (rf_na (by revert hk; revert k; decide))) (fun _ _ => rfl)
  · exact c9
  · exact c10.congr (fun k hk => (rf_na (by revert hk; revert k; decide)).trans (rf_na (by revert hk; revert k; decide)))
  · exact c11.congr (fun k hk => (rf_na (by revert hk; revert k; decide)).trans (rf_na (by revert hk; revert k; decide))) (fun _ _ => rfl)
  · exact c12.congr (fun k hk => (rf_na (by revert hk; revert k; decide)).trans (rf_na (by revert hk; revert k; decide))) (fun _ _ => rfl)
theorem rf_hello {k : Nat} (J : rf_J n t s q z M0 M) (h : z_ai M (n + 52) k = 1) : 0 ≤ (z_ai M (n + 53) k).toInt ∧ (z_ai M (n + 53) k).toInt ≤ 21 := ⟨(a_53 J k).1, J.2.1.2.2.2.2.2.2.2.2.2.1 k h⟩
theorem rf_fm (J : rf_J n t s q z M0 M) (k : Nat) : (z_ai M (n + 74) k).toInt + (z_ai M (n + 75) k).toInt ≤ 200 := J.2.1.2.2.2.2.1 k
theorem rf_tk (J : rf_J n t s q z M0 M) (k : Nat) : 0 ≤ (z_ai M (n + 72) k).toInt ∧ (z_ai M (n + 72) k).toInt ≤ (z_fi M 1536 (n + 40)).toInt := J.2.1.2.2.2.1 k
theorem rf_sw (J : rf_J n t s q z M0 M) (k : Nat) (h : k < 4) : (z_ai M (n + 67) k).toInt ≤ (z_ai M (n + 66) k).toInt := J.2.1.2.2.1 k h
theorem rf_hl (J : rf_J n t s q z M0 M) : (z_fi M 1580 (n + 40)).toInt ≤ (z_fi M 1536 (n + 40)).toInt := J.2.1.2.2.2.2.2.2.2.2.1.2
theorem rf_iv (J : rf_J n t s q z M0 M) (h : z_fi M 1577 (n + 40) = 1) : 10 ≤ (z_fi M 1581 (n + 40)).toInt ∧ (z_fi M 1581 (n + 40)).toInt ≤ 4000 := J.2.1.2.2.2.2.2.2.2.2.1.1 h
theorem rf_C6a (J : rf_J n t s q z M0 M) {p : Nat} (h : p < 2) : 32 ≤ (z_ai M (n + 84) p).toInt ∧ 125 * (z_ai M (n + 84) p).toInt ≤ 3200000000 + 2000 * (z_ai M (n + 97) p).toInt + 2 * ((z_fi M 1536 (n + 40)).toInt * (z_fi M 1536 (n + 40)).toInt * (z_fi M 1536 (n + 40)).toInt) ∧ 0 ≤ (z_ai M (n + 101) p).toInt ∧ (z_ai M (n + 101) p).toInt ≤ (z_fi M 1536 (n + 40)).toInt ∧ 125 * (z_ai M (n + 103) p).toInt ≤ 3200000000 + 2000 * (z_ai M (n + 97) p).toInt + 2 * ((z_ai M (n + 101) p).toInt * (z_ai M (n + 101) p).toInt * (z_ai M (n + 101) p).toInt) ∧ (z_ai M (n + 97) p).toInt + (rf_c (fun k => decide (z_ai M (n + 76) k = 0)) 400 : Nat) + (z : Nat) ≤ 400 ∧ (z_ai M (n + 99) p).toInt ≤ (z_ai M (n + 97) p).toInt := J.2.1.2.2.2.2.2.1 p h
theorem rf_C7a (J : rf_J n t s q z M0 M) (i : Nat) : (i % 15 = 0 → 0 ≤ (z_ai M (n + 61) i).toInt ∧ (z_ai M (n + 61) i).toInt ≤ 4) ∧ (1 ≤ i % 15 ∧ i % 15 ≤ 8 → 0 ≤ (z_ai M (n + 61) i).toInt ∧ (z_ai M (n + 61) i).toInt ≤ 399) := J.2.1.2.2.2.2.2.2.1.1 i
theorem rf_C7b (J : rf_J n t s q z M0 M) (i : Nat) (h9 : 0 < (z_ai M (n + 61) (15 * i + 9)).toInt) : 0 < (z_ai M (n + 61) (15 * i)).toInt := J.2.1.2.2.2.2.2.2.1.2 i h9
theorem rf_C8a (J : rf_J n t s q z M0 M) (h : 0 < (z_fi M 1576 (n + 40)).toInt) : ∃ k, k < 400 ∧ ¬ z_ai M (n + 63) k = 0 := J.2.1.2.2.2.2.2.2.2.1 h
theorem rf_C11a (J : rf_J n t s q z M0 M) : (z_fi M 1554 (n + 40)).toInt + (rf_c (fun k => decide (¬ z_ai M (n + 50) k = -1)) (z_ai M (n + 51) 0).toInt.toNat : Nat) + (rf_c (fun k => decide (¬ z_ai M (n + 50) (30 + k) = -1)) (z_ai M (n + 51) 1).toInt.toNat : Nat) ≤ (z_fi M 1551 (n + 40)).toInt := J.2.1.2.2.2.2.2.2.2.2.2.2.1
theorem rf_C12a (J : rf_J n t s q z M0 M) : (z_fi M 1551 (n + 40)).toInt + (400 - (z_fi M 1606 (n + 40)).toInt) + (if z_fi M 1579 (n + 40) = 0 then 1 else 0) + (2000 - (z_fi M 1580 (n + 40)).toInt) / 10 + (t : Nat) ≤ 1300 ∧ (z_fi M 1559 (n + 40)).toInt + (z_fi M 1551 (n + 40)).toInt + (2000 - (z_fi M 1536 (n + 40)).toInt) + (400 - (z_fi M 1606 (n + 40)).toInt) + (if z_fi M 1579 (n + 40) = 0 then 1 else 0) + (2000 - (z_fi M 1580 (n + 40)).toInt) / 10 + (s : Nat) ≤ 3600 + (rf_c (fun k => decide ((z_ai M (n + 56) k).toInt ≤ (z_fi M 1536 (n + 40)).toInt)) (z_fi M 1554 (n + 40)).toInt.toNat : Nat) ∧ (z_fi M 1561 (n + 40)).toInt + (z_fi M 1551 (n + 40)).toInt + (2000 - (z_fi M 1536 (n + 40)).toInt) + (400 - (z_fi M 1606 (n + 40)).toInt) + (if z_fi M 1579 (n + 40) = 0 then 1 else 0) + (2000 - (z_fi M 1580 (n + 40)).toInt) / 10 + (q : Nat) ≤ 3600 + (rf_c (fun k => decide ((z_ai M (n + 56) k).toInt ≤ (z_fi M 1536 (n + 40)).toInt)) (z_fi M 1554 (n + 40)).toInt.toNat : Nat) := J.2.1.2.2.2.2.2.2.2.2.2.2.2
theorem rf_arr (J : rf_J n t s q z M0 M) : (rf_c (fun k => decide ((z_ai M (n + 56) k).toInt ≤ (z_fi M 1536 (n + 40)).toInt)) (z_fi M 1554 (n + 40)).toInt.toNat : Int) ≤ (z_fi M 1551 (n + 40)).toInt := by
  have a := rf_C11a J
  have b := rf_c_le (p := fun k => decide ((z_ai M (n + 56) k).toInt ≤ (z_fi M 1536 (n + 40)).toInt)) (z_fi M 1554 (n + 40)).toInt.toNat
  have c := f_1554 J
  omega
theorem rf_ans (J : rf_J n t (s + 1) q z M0 M) : 0 ≤ (z_fi M 1559 (n + 40)).toInt ∧ (z_fi M 1559 (n + 40)).toInt < 3600 := by
  have a := (rf_C12a J).2.1
  have b := rf_arr J
  have c := f_1559 J
  have d := f_1536 J
  have f := f_1606 J
  have g := f_1580 J
  have h : (0 : Int) ≤ (if z_fi M 1579 (n + 40) = 0 then 1 else 0) := by split <;> decide
  omega
theorem rf_tel (J : rf_J n t s (q + 1) z M0 M) : 0 ≤ (z_fi M 1561 (n + 40)).toInt ∧ (z_fi M 1561 (n + 40)).toInt < 3600 := by
  have a := (rf_C12a J).2.2
  have b := rf_arr J
  have c := f_1561 J
  have d := f_1536 J
  have f := f_1606 J
  have g := f_1580 J
  have h : (0 : Int) ≤ (if z_fi M 1579 (n + 40) = 0 then 1 else 0) := by split <;> decide
  omega
theorem rf_thg (J : rf_J n (t + 1) s q z M0 M) : 0 ≤ (z_fi M 1551 (n + 40)).toInt ∧ (z_fi M 1551 (n + 40)).toInt < 1300 := by
  have a := (rf_C12a J).1
  have c := f_1551 J
  have f := f_1606 J
  have g := f_1580 J
  have h : (0 : Int) ≤ (if z_fi M 1579 (n + 40) = 0 then 1 else 0) := by split <;> decide
  omega
end RFY
