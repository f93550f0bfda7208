/-! ===== THE REFERENCE: now is 1 more ===== -/
theorem rf_c_add {p p1 p2 : Nat → Bool} (h : ∀ k, (if p2 k then 1 else 0) = (if p k then 1 else 0) + (if p1 k then 1 else 0 : Nat)) : ∀ n, rf_c p2 n = rf_c p n + rf_c p1 n
  | 0 => rfl
  | n + 1 => by
    show rf_c p2 n + (if p2 n then 1 else 0) = rf_c p n + (if p n then 1 else 0) + (rf_c p1 n + (if p1 n then 1 else 0))
    rw [rf_c_add h n, h n]; omega
section RFT
variable {n t s q z : Nat} {M0 M M1 : z_Mem}
theorem w_1536 {v : Int32} (J : rf_J n t s q z M0 M) (e : M1 = z_sfi M 1536 (n + 40) v) (hv : v.toInt = (z_fi M 1536 (n + 40)).toInt + 1) (h1 : v.toInt ≤ 2000) : rf_J n t (s + 1 + rf_c (fun k => decide (z_ai M (n + 56) k = v)) (z_fi M 1554 (n + 40)).toInt.toNat) (q + 1 + rf_c (fun k => decide (z_ai M (n + 56) k = v)) (z_fi M 1554 (n + 40)).toInt.toNat) z M1 M1 := by
  subst e
  obtain ⟨S, ⟨c1, c2, c3, c4, c5, c6, c7, c8, c9, c10, c11, c12⟩, K⟩ := J
  have k1 := c2 (1536, 0, 2000) (by decide)
  dsimp only at k1
  have h0 : 0 ≤ v.toInt := by omega
  refine ⟨S, ⟨?_, ?_, ?_, ?_, ?_, ?_, ?_, ?_, ?_, ?_, ?_, ?_⟩, rf_Krf⟩
  · exact c1
  · intro r ht
    by_cases h : r.1 = 1536
    · have e1 : r = (1536, 0, 2000) := by revert r; decide
      subst e1
      show 0 ≤ (z_fi (z_sfi M 1536 (n + 40) v) 1536 (n + 40)).toInt ∧ (z_fi (z_sfi M 1536 (n + 40) v) 1536 (n + 40)).toInt ≤ 2000
      rw [rf_ef]; exact ⟨h0, h1⟩
    · show r.2.1 ≤ (z_fi (z_sfi M 1536 (n + 40) v) r.1 (n + 40)).toInt ∧ (z_fi (z_sfi M 1536 (n + 40) v) r.1 (n + 40)).toInt ≤ r.2.2
      rw [rf_nf h]; exact c2 r ht
  · exact c3
  · unfold rf_C4 at c4 ⊢
    simp only [rf_ef, zq_fi_sai, zq_ai_sfi] at c4 ⊢
    intro k
    have g := c4 k
    omega
  · exact c5
  · unfold rf_C6 at c6 ⊢
    simp only [rf_ef, zq_fi_sai, zq_ai_sfi] at c6 ⊢
    intro p hp
    obtain ⟨g1, g2, g3, g4, g5, g6, g7⟩ := c6 p hp
    have c := rf_cube k1.1 (show (z_fi M 1536 (n + 40)).toInt ≤ v.toInt by omega)
    exact ⟨g1, by omega, g3, by omega, g5, g6, g7⟩
  · exact c7
  · exact c8.congr (fun _ _ => rfl) (fun y hy => rf_nf (by revert hy; revert y; decide))
  · unfold rf_C9 at c9 ⊢
    simp only [rf_nf (show (1577 : Nat) ≠ 1536 by decide), rf_nf (show (1581 : Nat) ≠ 1536 by decide), rf_nf (show (1580 : Nat) ≠ 1536 by decide), rf_ef, zq_fi_sai, zq_ai_sfi] at c9 ⊢
    exact ⟨c9.1, by have := c9.2; omega⟩
  · exact c10
  · exact c11.congr (fun _ _ => rfl) (fun y hy => rf_nf (by revert hy; revert y; decide))
  · have ea : rf_c (fun k => decide ((z_ai M (n + 56) k).toInt ≤ v.toInt)) (z_fi M 1554 (n + 40)).toInt.toNat = rf_c (fun k => decide ((z_ai M (n + 56) k).toInt ≤ (z_fi M 1536 (n + 40)).toInt)) (z_fi M 1554 (n + 40)).toInt.toNat + rf_c (fun k => decide (z_ai M (n + 56) k = v)) (z_fi M 1554 (n + 40)).toInt.toNat := rf_c_add (fun k => by
        by_cases e : z_ai M (n + 56) k = v
        · rw [e]
          rw [if_pos (decide_eq_true (Int.le_refl _)), if_neg (by rw [decide_eq_true_eq]; omega), if_pos (decide_eq_true rfl)]
        · have e2 : ¬ (z_ai M (n + 56) k).toInt = v.toInt := fun h => e (Int32.toInt_inj.mp h)
          rw [if_neg (show ¬ decide (z_ai M (n + 56) k = v) = true by rw [decide_eq_true_eq]; exact e)]
          by_cases e3 : (z_ai M (n + 56) k).toInt ≤ (z_fi M 1536 (n + 40)).toInt
          · rw [if_pos (decide_eq_true (show (z_ai M (n + 56) k).toInt ≤ v.toInt by omega)), if_pos (decide_eq_true e3)]
          · rw [if_neg (show ¬ decide ((z_ai M (n + 56) k).toInt ≤ v.toInt) = true by rw [decide_eq_true_eq]; omega), if_neg (show ¬ decide ((z_ai M (n + 56) k).toInt ≤ (z_fi M 1536 (n + 40)).toInt) = true by rw [decide_eq_true_eq]; exact e3)]) _
    unfold rf_C12 at c12 ⊢
    simp only [rf_nf (show (1551 : Nat) ≠ 1536 by decide), rf_nf (show (1554 : Nat) ≠ 1536 by decide), rf_nf (show (1559 : Nat) ≠ 1536 by decide), rf_nf (show (1561 : Nat) ≠ 1536 by decide), rf_nf (show (1579 : Nat) ≠ 1536 by decide), rf_nf (show (1580 : Nat) ≠ 1536 by decide), rf_nf (show (1606 : Nat) ≠ 1536 by decide), rf_ef, zq_fi_sai, zq_ai_sfi] at c12 ⊢
    rw [ea]; omega
end RFT
