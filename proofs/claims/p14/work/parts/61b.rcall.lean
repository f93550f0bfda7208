/-! ===== THE REFERENCE: writes of single calls ===== -/
section RFV
variable {n t s q z : Nat} {M0 M M1 : z_Mem}
theorem w_66 {j : Nat} {v : Int32} (J : rf_J n t s q z M0 M) (e : M1 = z_sai M (n + 66) j v) (h0 : 0 ≤ v.toInt) (h1 : v.toInt ≤ 200) (hs : (z_ai M (n + 67) j).toInt ≤ v.toInt) : rf_J n t s q z M1 M1 := by
  subst e
  obtain ⟨S, ⟨c1, c2, c3, c4, c5, c6, c7, c8, c9, c10, c11, c12⟩, K⟩ := J
  refine ⟨S, ⟨?_, ?_, ?_, ?_, ?_, ?_, ?_, ?_, ?_, ?_, ?_, ?_⟩, rf_Krf⟩
  · intro r ht i
    by_cases h : r.1 = 66
    · have e1 : r = (66, 0, 200) := by revert r; decide
      subst e1
      show 0 ≤ (z_ai (z_sai M (n + 66) j v) (n + 66) i).toInt ∧ (z_ai (z_sai M (n + 66) j v) (n + 66) i).toInt ≤ 200
      rw [rf_ea]
      split
      · exact ⟨h0, h1⟩
      · exact c1 (66, 0, 200) ht i
    · show r.2.1 ≤ (z_ai (z_sai M (n + 66) j v) (n + r.1) i).toInt ∧ (z_ai (z_sai M (n + 66) j v) (n + r.1) i).toInt ≤ r.2.2
      rw [rf_na h]; exact c1 r ht i
  · exact c2
  · unfold rf_C3 at c3 ⊢
    simp only [rf_na (show (67 : Nat) ≠ 66 by decide), rf_ea, zq_fi_sai, zq_ai_sfi] at c3 ⊢
    intro k hk
    have g := c3 k hk
    split
    · rename_i e; rw [e]; exact hs
    · exact g
  · exact c4.congr (fun y hy => rf_na (by revert hy; revert y; decide)) (fun _ _ => rfl)
  · exact c5.congr (fun y hy => rf_na (by revert hy; revert y; decide))
  · exact c6.congr (fun y hy => rf_na (by revert hy; revert y; decide)) (fun _ _ => rfl)
  · exact c7.congr (fun y hy => rf_na (by revert hy; revert y; decide))
  · exact c8.congr (fun y hy => rf_na (by revert hy; revert y; decide)) (fun _ _ => rfl)
  · exact c9
  · exact c10.congr (fun y hy => rf_na (by revert hy; revert y; decide))
  · exact c11.congr (fun y hy => rf_na (by revert hy; revert y; decide)) (fun _ _ => rfl)
  · exact c12.congr (fun y hy => rf_na (by revert hy; revert y; decide)) (fun _ _ => rfl)
theorem w_63z {j : Nat} {v : Int32} (J : rf_J n t s q z M0 M) (e : M1 = z_sai M (n + 63) j v) (hm : (z_fi M 1576 (n + 40)).toInt ≤ 0) : rf_J n t s q z M0 M1 := by
  subst e
  obtain ⟨S, ⟨c1, c2, c3, c4, c5, c6, c7, c8, c9, c10, c11, c12⟩, K⟩ := J
  refine ⟨S, ⟨?_, ?_, ?_, ?_, ?_, ?_, ?_, ?_, ?_, ?_, ?_, ?_⟩, rf_Ka (by decide) (by decide) (by decide) K⟩
  · exact c1.congr (fun y hy => rf_na (by revert hy; revert y; decide))
  · exact c2
  · exact c3.congr (fun y hy => rf_na (by revert hy; revert y; decide))
  · exact c4.congr (fun y hy => rf_na (by revert hy; revert y; decide)) (fun _ _ => rfl)
  · exact c5.congr (fun y hy => rf_na (by revert hy; revert y; decide))
  · exact c6.congr (fun y hy => rf_na (by revert hy; revert y; decide)) (fun _ _ => rfl)
  · exact c7.congr (fun y hy => rf_na (by revert hy; revert y; decide))
  · unfold rf_C8 at c8 ⊢
    simp only [rf_ea, zq_fi_sai, zq_ai_sfi] at c8 ⊢
    intro h
    omega
  · exact c9
  · exact c10.congr (fun y hy => rf_na (by revert hy; revert y; decide))
  · exact c11.congr (fun y hy => rf_na (by revert hy; revert y; decide)) (fun _ _ => rfl)
  · exact c12.congr (fun y hy => rf_na (by revert hy; revert y; decide)) (fun _ _ => rfl)
theorem w_1577c {v : Int32} (J : rf_J n t s q z M0 M) (e : M1 = z_sfi M 1577 (n + 40) v) (hi : 10 ≤ (z_fi M 1581 (n + 40)).toInt ∧ (z_fi M 1581 (n + 40)).toInt ≤ 4000) : rf_J n t s q z M0 M1 := by
  subst e
  obtain ⟨S, ⟨c1, c2, c3, c4, c5, c6, c7, c8, c9, c10, c11, c12⟩, K⟩ := J
  refine ⟨S, ⟨?_, ?_, ?_, ?_, ?_, ?_, ?_, ?_, ?_, ?_, ?_, ?_⟩, rf_Kf (by decide) (by decide) K⟩
  · exact c1
  · exact c2.congr (fun y hy => rf_nf (by revert hy; revert y; decide))
  · exact c3
  · exact c4.congr (fun _ _ => rfl) (fun y hy => rf_nf (by revert hy; revert y; decide))
  · exact c5
  · exact c6.congr (fun _ _ => rfl) (fun y hy => rf_nf (by revert hy; revert y; decide))
  · exact c7
  · exact c8.congr (fun _ _ => rfl) (fun y hy => rf_nf (by revert hy; revert y; decide))
  · unfold rf_C9 at c9 ⊢
    simp only [rf_nf (show (1581 : Nat) ≠ 1577 by decide), rf_nf (show (1580 : Nat) ≠ 1577 by decide), rf_nf (show (1536 : Nat) ≠ 1577 by decide), rf_ef, zq_fi_sai, zq_ai_sfi] at c9 ⊢
    exact ⟨fun _ => hi, c9.2⟩
  · exact c10
  · exact c11.congr (fun _ _ => rfl) (fun y hy => rf_nf (by revert hy; revert y; decide))
  · exact c12.congr (fun _ _ => rfl) (fun y hy => rf_nf (by revert hy; revert y; decide))
theorem w_51f {j : Nat} {v : Int32} (J : rf_J n t s q z M0 M) (e : M1 = z_sai M (n + 51) j v) (hj : j < 2) (hv : v.toInt = (z_ai M (n + 51) j).toInt + 1) (h1 : v.toInt ≤ 30) (hn : z_ai M (n + 50) (30 * j + (z_ai M (n + 51) j).toInt.toNat) = -1) : rf_J n t s q z M0 M1 := by
  subst e
  obtain ⟨S, ⟨c1, c2, c3, c4, c5, c6, c7, c8, c9, c10, c11, c12⟩, K⟩ := J
  have b0 := c1 (51, 0, 30) (by decide) j
  dsimp only at b0
  have h0 : 0 ≤ v.toInt := by omega
  refine ⟨S, ⟨?_, ?_, ?_, ?_, ?_, ?_, ?_, ?_, ?_, ?_, ?_, ?_⟩, rf_Ka (by decide) (by decide) (by decide) K⟩
  · intro r ht i
    by_cases h : r.1 = 51
    · have e1 : r = (51, 0, 30) := by revert r; decide
      subst e1
      show 0 ≤ (z_ai (z_sai M (n + 51) j v) (n + 51) i).toInt ∧ (z_ai (z_sai M (n + 51) j v) (n + 51) i).toInt ≤ 30
      rw [rf_ea]
      split
      · exact ⟨h0, h1⟩
      · exact c1 (51, 0, 30) ht i
    · show r.2.1 ≤ (z_ai (z_sai M (n + 51) j v) (n + r.1) i).toInt ∧ (z_ai (z_sai M (n + 51) j v) (n + r.1) i).toInt ≤ r.2.2
      rw [rf_na h]; exact c1 r ht i
  · exact c2
  · exact c3.congr (fun y hy => rf_na (by revert hy; revert y; decide))
  · exact c4.congr (fun y hy => rf_na (by revert hy; revert y; decide)) (fun _ _ => rfl)
  · exact c5.congr (fun y hy => rf_na (by revert hy; revert y; decide))
  · exact c6.congr (fun y hy => rf_na (by revert hy; revert y; decide)) (fun _ _ => rfl)
  · exact c7.congr (fun y hy => rf_na (by revert hy; revert y; decide))
  · exact c8.congr (fun y hy => rf_na (by revert hy; revert y; decide)) (fun _ _ => rfl)
  · exact c9
  · exact c10.congr (fun y hy => rf_na (by revert hy; revert y; decide))
  · unfold rf_C11 at c11 ⊢
    simp only [rf_na (show (50 : Nat) ≠ 51 by decide), rf_ea, zq_fi_sai] at c11 ⊢
    rcases (show j = 0 ∨ j = 1 by omega) with e | e
    · subst e
      rw [if_pos rfl, if_neg (by decide)]
      have e5 : v.toInt.toNat = (z_ai M (n + 51) 0).toInt.toNat + 1 := by omega
      rw [e5]
      have e6 : rf_c (fun k => decide (¬ z_ai M (n + 50) k = -1)) ((z_ai M (n + 51) 0).toInt.toNat + 1) = rf_c (fun k => decide (¬ z_ai M (n + 50) k = -1)) (z_ai M (n + 51) 0).toInt.toNat := by
        show _ + (if decide (¬ z_ai M (n + 50) (z_ai M (n + 51) 0).toInt.toNat = -1) = true then 1 else 0) = _
        rw [if_neg (by rw [decide_eq_true_eq]; exact fun h => h (by rw [← hn]; rw [show 30 * 0 + (z_ai M (n + 51) 0).toInt.toNat = (z_ai M (n + 51) 0).toInt.toNat by omega]))]; rfl
      rw [e6]; exact c11
    · subst e
      rw [if_neg (by decide), if_pos rfl]
      have e5 : v.toInt.toNat = (z_ai M (n + 51) 1).toInt.toNat + 1 := by omega
      rw [e5]
      have e6 : rf_c (fun k => decide (¬ z_ai M (n + 50) (30 + k) = -1)) ((z_ai M (n + 51) 1).toInt.toNat + 1) = rf_c (fun k => decide (¬ z_ai M (n + 50) (30 + k) = -1)) (z_ai M (n + 51) 1).toInt.toNat := by
        show _ + (if decide (¬ z_ai M (n + 50) (30 + (z_ai M (n + 51) 1).toInt.toNat) = -1) = true then 1 else 0) = _
        rw [if_neg (by rw [decide_eq_true_eq]; exact fun h => h (by rw [← hn]))]; rfl
      rw [e6]; exact c11
  · exact c12.congr (fun y hy => rf_na (by revert hy; revert y; decide)) (fun _ _ => rfl)
theorem rf_comm {g k a b : Nat} {v w : Int32} (h : g ≠ k) : z_sfi (z_sfi M g a v) k b w = z_sfi (z_sfi M k b w) g a v := by
  have e : z_up (z_up M.2.2.1 g a v) k b w = z_up (z_up M.2.2.1 k b w) g a v := by
    funext x y
    show z_fi (z_sfi (z_sfi M g a v) k b w) x y = z_fi (z_sfi (z_sfi M k b w) g a v) x y
    rw [zq_fi_sfi, zq_fi_sfi, zq_fi_sfi, zq_fi_sfi]
    by_cases h1 : x = k
    · subst h1
      rw [if_pos rfl, if_neg (Ne.symm h), if_neg (Ne.symm h), if_pos rfl]
    · rw [if_neg h1, if_neg h1]
  unfold z_sfi
  dsimp only
  rw [e]
end RFV
