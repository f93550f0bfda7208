/-! ===== THE REFERENCE: a queue is let leave: writes ===== -/
/-- what every part of a tick leaves as it was -/
def rf_K2 (n : Nat) (M0 M : z_Mem) : Prop := z_fr M = z_fr M0 ∧ z_ln M = z_ln M0 ∧ z_ar M = z_ar M0 ∧ z_al M = z_al M0 ∧ z_sz M = z_sz M0 ∧ z_cl M = z_cl M0 ∧ z_sl M = z_sl M0 ∧ (∀ g a, g < 1536 → z_fi M g a = z_fi M0 g a) ∧ (∀ a j, a < n + 41 ∨ n + 107 ≤ a → z_ai M a j = z_ai M0 a j) ∧ (∀ x, x ∈ [45, 86, 66] → z_ai M (n + x) = z_ai M0 (n + x)) ∧ (∀ g, g ∈ [1563, 1536, 1630] → z_fi M g (n + 40) = z_fi M0 g (n + 40))
theorem rf_K2w {n : Nat} {M0 M : z_Mem} (h : rf_K n M0 M) : rf_K2 n M0 M := by
  obtain ⟨a1, a2, a3, a4, a5, a6, a7, a8, a9, a10, a11⟩ := h
  exact ⟨a1, a2, a3, a4, a5, a6, a7, a8, a9, fun x hx => a10 x (by revert hx; revert x; decide), fun g hg => a11 g (by revert hg; revert g; decide)⟩
theorem rf_K2rf {n : Nat} {M : z_Mem} : rf_K2 n M M := rf_K2w rf_Krf
theorem rf_K2tr {n : Nat} {M0 M M1 : z_Mem} (h : rf_K2 n M0 M) (k : rf_K2 n M M1) : rf_K2 n M0 M1 := by
  obtain ⟨a1, a2, a3, a4, a5, a6, a7, a8, a9, a10, a11⟩ := h
  obtain ⟨b1, b2, b3, b4, b5, b6, b7, b8, b9, b10, b11⟩ := k
  exact ⟨b1.trans a1, b2.trans a2, b3.trans a3, b4.trans a4, b5.trans a5, b6.trans a6, b7.trans a7, fun g a h => (b8 g a h).trans (a8 g a h), fun a j h => (b9 a j h).trans (a9 a j h), fun x h => (b10 x h).trans (a10 x h), fun g h => (b11 g h).trans (a11 g h)⟩
theorem rf_same {M : z_Mem} {g a : Nat} {v : Int32} (h : v = z_fi M g a) : z_sfi M g a v = M := by
  have e : z_up M.2.2.1 g a v = M.2.2.1 := by
    funext x y
    show z_fi (z_sfi M g a v) x y = z_fi M x y
    rw [zq_fi_sfi]
    split
    · rename_i e1
      split
      · rename_i e2
        rw [e1, e2, h]
      · rfl
    · rfl
  unfold z_sfi
  rw [e]
theorem rf_K2a {n x j : Nat} {M0 M : z_Mem} {v : Int32} (h1 : 41 ≤ x) (h2 : x < 107) (hx : x ∉ ([45, 86, 66] : List Nat)) (K : rf_K2 n M0 M) : rf_K2 n M0 (z_sai M (n + x) j v) := by
  obtain ⟨a1, a2, a3, a4, a5, a6, a7, a8, a9, a10, a11⟩ := K
  refine ⟨a1, a2, a3, a4, a5, a6, a7, a8, fun a i h => ?_, fun y hy => ?_, a11⟩
  · rw [zq_ai_sai, if_neg (by omega)]; exact a9 a i h
  · rw [rf_na (fun (e : y = x) => hx (e ▸ hy))]; exact a10 y hy
theorem rf_K2f {n g : Nat} {M0 M : z_Mem} {v : Int32} (h1 : 1536 ≤ g) (hx : g ∉ ([1563, 1536, 1630] : List Nat)) (K : rf_K2 n M0 M) : rf_K2 n M0 (z_sfi M g (n + 40) v) := by
  obtain ⟨a1, a2, a3, a4, a5, a6, a7, a8, a9, a10, a11⟩ := K
  refine ⟨a1, a2, a3, a4, a5, a6, a7, fun k a h => ?_, a9, a10, fun y hy => ?_⟩
  · rw [zq_fi_sfi, if_neg (by omega)]; exact a8 k a h
  · rw [rf_nf (fun (e : y = g) => hx (e ▸ hy))]; exact a11 y hy
section RFQ
variable {n t s q z : Nat} {M0 M M1 M2 : z_Mem}
theorem w_50g {j : Nat} {v : Int32} (J : rf_J n t s q z M0 M) (e : M1 = z_sai M (n + 50) j v) (h0 : -1 ≤ v.toInt) (h1 : v.toInt ≤ 1299) (hC : (z_fi M 1554 (n + 40)).toInt + 60 ≤ (z_fi M 1551 (n + 40)).toInt) : rf_J n t s q z M0 M1 := by
  subst e
  obtain ⟨S, ⟨c1, c2, c3, c4, c5, c6, c7, c8, c9, c10, c11, c12⟩, K⟩ := J
  have b0 := c1 (51, 0, 30) (by decide) 0
  have b1 := c1 (51, 0, 30) (by decide) 1
  dsimp only at b0 b1
  refine ⟨S, ⟨?_, ?_, ?_, ?_, ?_, ?_, ?_, ?_, ?_, ?_, ?_, ?_⟩, rf_Ka (by decide) (by decide) (by decide) K⟩
  · intro r ht i
    by_cases h : r.1 = 50
    · have e1 : r = (50, -1, 1299) := by revert r; decide
      subst e1
      show -1 ≤ (z_ai (z_sai M (n + 50) j v) (n + 50) i).toInt ∧ (z_ai (z_sai M (n + 50) j v) (n + 50) i).toInt ≤ 1299
      rw [rf_ea]
      split
      · exact ⟨h0, h1⟩
      · exact c1 (50, -1, 1299) ht i
    · show r.2.1 ≤ (z_ai (z_sai M (n + 50) j v) (n + r.1) i).toInt ∧ (z_ai (z_sai M (n + 50) j v) (n + r.1) i).toInt ≤ r.2.2
      rw [rf_na h]; exact c1 r ht i
  · exact c2
  · exact c3.congr (fun y hy => rf_na (by revert hy; revert y; decide))
  · exact c4.congr (fun y hy => rf_na (by revert hy; revert y; decide)) (fun _ _ => rfl)
  · exact c5.congr (fun y hy => rf_na (by revert hy; revert y; decide))
  · exact c6.congr (fun y hy => rf_na (by revert hy; revert y; decide)) (fun _ _ => rfl)
  · exact c7.congr (fun y hy => rf_na (by revert hy; revert y; decide))
  · exact c8.congr (fun y hy => rf_na (by revert hy; revert y; decide)) (fun _ _ => rfl)
  · exact c9
  · exact c10.congr (fun y hy => rf_na (by revert hy; revert y; decide))
  · unfold rf_C11 at c11 ⊢
    simp only [rf_na (show (51 : Nat) ≠ 50 by decide), zq_fi_sai, zq_ai_sfi] at c11 ⊢
    have l0 : ∀ p : Nat → Bool, (rf_c p (z_ai M (n + 51) 0).toInt.toNat : Int) ≤ 30 := fun p => by have := rf_c_le (p := p) ((z_ai M (n + 51) 0).toInt.toNat); omega
    have l1 : ∀ p : Nat → Bool, (rf_c p (z_ai M (n + 51) 1).toInt.toNat : Int) ≤ 30 := fun p => by have := rf_c_le (p := p) ((z_ai M (n + 51) 1).toInt.toNat); omega
    refine Int.le_trans (Int.add_le_add (Int.add_le_add_left (l0 _) _) (l1 _)) ?_
    omega
  · exact c12.congr (fun y hy => rf_na (by revert hy; revert y; decide)) (fun _ _ => rfl)
theorem w_51g {j : Nat} {v : Int32} (J : rf_J n t s q z M0 M) (e : M1 = z_sai M (n + 51) j v) (h0 : 0 ≤ v.toInt) (h1 : v.toInt ≤ 30) (hC : (z_fi M 1554 (n + 40)).toInt + 60 ≤ (z_fi M 1551 (n + 40)).toInt) : rf_J n t s q z M0 M1 := by
  subst e
  obtain ⟨S, ⟨c1, c2, c3, c4, c5, c6, c7, c8, c9, c10, c11, c12⟩, K⟩ := J
  have b0 := c1 (51, 0, 30) (by decide) 0
  have b1 := c1 (51, 0, 30) (by decide) 1
  dsimp only at b0 b1
  have v0 : (if 0 = j then v else z_ai M (n + 51) 0).toInt.toNat ≤ 30 := by split <;> omega
  have v1 : (if 1 = j then v else z_ai M (n + 51) 1).toInt.toNat ≤ 30 := by split <;> omega
  refine ⟨S, ⟨?_, ?_, ?_, ?_, ?_, ?_, ?_, ?_, ?_, ?_, ?_, ?_⟩, rf_Ka (by decide) (by decide) (by decide) K⟩
  · intro r ht i
    by_cases h : r.1 = 51
    · have e1 : r = (51, 0, 30) := by revert r; decide
      subst e1
      show 0 ≤ (z_ai (z_sai M (n + 51) j v) (n + 51) i).toInt ∧ (z_ai (z_sai M (n + 51) j v) (n + 51) i).toInt ≤ 30
      rw [rf_ea]
      split
      · exact ⟨h0, h1⟩
      · exact c1 (51, 0, 30) ht i
    · show r.2.1 ≤ (z_ai (z_sai M (n + 51) j v) (n + r.1) i).toInt ∧ (z_ai (z_sai M (n + 51) j v) (n + r.1) i).toInt ≤ r.2.2
      rw [rf_na h]; exact c1 r ht i
  · exact c2
  · exact c3.congr (fun y hy => rf_na (by revert hy; revert y; decide))
  · exact c4.congr (fun y hy => rf_na (by revert hy; revert y; decide)) (fun _ _ => rfl)
  · exact c5.congr (fun y hy => rf_na (by revert hy; revert y; decide))
  · exact c6.congr (fun y hy => rf_na (by revert hy; revert y; decide)) (fun _ _ => rfl)
  · exact c7.congr (fun y hy => rf_na (by revert hy; revert y; decide))
  · exact c8.congr (fun y hy => rf_na (by revert hy; revert y; decide)) (fun _ _ => rfl)
  · exact c9
  · exact c10.congr (fun y hy => rf_na (by revert hy; revert y; decide))
  · unfold rf_C11 at c11 ⊢
    simp only [rf_na (show (50 : Nat) ≠ 51 by decide), rf_ea, zq_fi_sai, zq_ai_sfi] at c11 ⊢
    have l0 : ∀ p : Nat → Bool, (rf_c p (if 0 = j then v else z_ai M (n + 51) 0).toInt.toNat : Int) ≤ 30 := fun p => by have := rf_c_le (p := p) ((if 0 = j then v else z_ai M (n + 51) 0).toInt.toNat); omega
    have l1 : ∀ p : Nat → Bool, (rf_c p (if 1 = j then v else z_ai M (n + 51) 1).toInt.toNat : Int) ≤ 30 := fun p => by have := rf_c_le (p := p) ((if 1 = j then v else z_ai M (n + 51) 1).toInt.toNat); omega
    refine Int.le_trans (Int.add_le_add (Int.add_le_add_left (l0 _) _) (l1 _)) ?_
    omega
  · exact c12.congr (fun y hy => rf_na (by revert hy; revert y; decide)) (fun _ _ => rfl)
theorem w_1554g {v : Int32} (J : rf_J n t s q z M0 M) (e : M1 = z_sfi M 1554 (n + 40) v) (hv : v.toInt = (z_fi M 1554 (n + 40)).toInt + 1) (hC : v.toInt + 60 ≤ (z_fi M 1551 (n + 40)).toInt) : rf_J n t s q z M1 M1 := by
  subst e
  obtain ⟨S, ⟨c1, c2, c3, c4, c5, c6, c7, c8, c9, c10, c11, c12⟩, K⟩ := J
  have b0 := c1 (51, 0, 30) (by decide) 0
  have b1 := c1 (51, 0, 30) (by decide) 1
  dsimp only at b0 b1
  have d0 := c2 (1551, 0, 1300) (by decide)
  have d1 := c2 (1554, 0, 1300) (by decide)
  have d2 := c2 (1606, 0, 400) (by decide)
  have d3 := c2 (1580, 0, 2000) (by decide)
  dsimp only at d0 d1 d2 d3
  have d4 : (0 : Int) ≤ (if z_fi M 1579 (n + 40) = 0 then 1 else 0) := by split <;> decide
  have k9 := c12
  unfold rf_C12 at k9
  dsimp only at k9
  have h0 : 0 ≤ v.toInt := by omega
  have h1 : v.toInt ≤ 1300 := by omega
  refine ⟨S, ⟨?_, ?_, ?_, ?_, ?_, ?_, ?_, ?_, ?_, ?_, ?_, ?_⟩, rf_Krf⟩
  · exact c1
  · intro r ht
    by_cases h : r.1 = 1554
    · have e1 : r = (1554, 0, 1300) := by revert r; decide
      subst e1
      show 0 ≤ (z_fi (z_sfi M 1554 (n + 40) v) 1554 (n + 40)).toInt ∧ (z_fi (z_sfi M 1554 (n + 40) v) 1554 (n + 40)).toInt ≤ 1300
      rw [rf_ef]; exact ⟨h0, h1⟩
    · show r.2.1 ≤ (z_fi (z_sfi M 1554 (n + 40) v) r.1 (n + 40)).toInt ∧ (z_fi (z_sfi M 1554 (n + 40) v) r.1 (n + 40)).toInt ≤ r.2.2
      rw [rf_nf h]; exact c2 r ht
  · exact c3
  · exact c4.congr (fun _ _ => rfl) (fun y hy => rf_nf (by revert hy; revert y; decide))
  · exact c5
  · exact c6.congr (fun _ _ => rfl) (fun y hy => rf_nf (by revert hy; revert y; decide))
  · exact c7
  · exact c8.congr (fun _ _ => rfl) (fun y hy => rf_nf (by revert hy; revert y; decide))
  · exact c9.congr (fun y hy => rf_nf (by revert hy; revert y; decide))
  · exact c10
  · unfold rf_C11 at c11 ⊢
    simp only [rf_nf (show (1551 : Nat) ≠ 1554 by decide), rf_ef, zq_fi_sai, zq_ai_sfi] at c11 ⊢
    have l0 : ∀ p : Nat → Bool, (rf_c p (z_ai M (n + 51) 0).toInt.toNat : Int) ≤ 30 := fun p => by have := rf_c_le (p := p) ((z_ai M (n + 51) 0).toInt.toNat); omega
    have l1 : ∀ p : Nat → Bool, (rf_c p (z_ai M (n + 51) 1).toInt.toNat : Int) ≤ 30 := fun p => by have := rf_c_le (p := p) ((z_ai M (n + 51) 1).toInt.toNat); omega
    refine Int.le_trans (Int.add_le_add (Int.add_le_add_left (l0 _) _) (l1 _)) ?_
    omega
  · unfold rf_C12 at c12 ⊢
    simp only [rf_nf (show (1536 : Nat) ≠ 1554 by decide), rf_nf (show (1551 : Nat) ≠ 1554 by decide), rf_nf (show (1559 : Nat) ≠ 1554 by decide), rf_nf (show (1561 : Nat) ≠ 1554 by decide), rf_nf (show (1579 : Nat) ≠ 1554 by decide), rf_nf (show (1580 : Nat) ≠ 1554 by decide), rf_nf (show (1606 : Nat) ≠ 1554 by decide), rf_ef, zq_fi_sai, zq_ai_sfi] at c12 ⊢
    have e1 : v.toInt.toNat = (z_fi M 1554 (n + 40)).toInt.toNat + 1 := by omega
    rw [e1]
    have e2 : rf_c (fun k => decide ((z_ai M (n + 56) k).toInt ≤ (z_fi M 1536 (n + 40)).toInt)) (z_fi M 1554 (n + 40)).toInt.toNat ≤ rf_c (fun k => decide ((z_ai M (n + 56) k).toInt ≤ (z_fi M 1536 (n + 40)).toInt)) ((z_fi M 1554 (n + 40)).toInt.toNat + 1) := Nat.le_add_right _ _
    omega
theorem w_56g {j : Nat} {v : Int32} (J : rf_J n t s q z M0 M) (e : M1 = z_sai M (n + 56) j v) (hj : (z_fi M 1554 (n + 40)).toInt ≤ (j : Int)) : rf_J n t s q z M1 M1 := by
  subst e
  obtain ⟨S, ⟨c1, c2, c3, c4, c5, c6, c7, c8, c9, c10, c11, c12⟩, K⟩ := J
  refine ⟨S, ⟨?_, ?_, ?_, ?_, ?_, ?_, ?_, ?_, ?_, ?_, ?_, ?_⟩, rf_Krf⟩
  · exact c1.congr (fun y hy => rf_na (by revert hy; revert y; decide))
  · exact c2
  · exact c3.congr (fun y hy => rf_na (by revert hy; revert y; decide))
  · exact c4.congr (fun y hy => rf_na (by revert hy; revert y; decide)) (fun _ _ => rfl)
  · exact c5.congr (fun y hy => rf_na (by revert hy; revert y; decide))
  · exact c6.congr (fun y hy => rf_na (by revert hy; revert y; decide)) (fun _ _ => rfl)
  · exact c7.congr (fun y hy => rf_na (by revert hy; revert y; decide))
  · exact c8.congr (fun y hy => rf_na (by revert hy; revert y; decide)) (fun _ _ => rfl)
  · exact c9
  · exact c10.congr (fun y hy => rf_na (by revert hy; revert y; decide))
  · exact c11.congr (fun y hy => rf_na (by revert hy; revert y; decide)) (fun _ _ => rfl)
  · unfold rf_C12 at c12
    dsimp only at c12
    have e2 : rf_c (fun k => decide ((z_ai (z_sai M (n + 56) j v) (n + 56) k).toInt ≤ (z_fi M 1536 (n + 40)).toInt)) (z_fi M 1554 (n + 40)).toInt.toNat = rf_c (fun k => decide ((z_ai M (n + 56) k).toInt ≤ (z_fi M 1536 (n + 40)).toInt)) (z_fi M 1554 (n + 40)).toInt.toNat := rf_c_eq _ (fun k hk => by rw [rf_ea, if_neg (by omega)])
    rw [← e2] at c12; exact c12
theorem w_1551up {v : Int32} (J : rf_J n (t + 60) (s + 60) (q + 60) z M0 M) (e : M1 = z_sfi M 1551 (n + 40) v) (hv : v.toInt = (z_fi M 1551 (n + 40)).toInt + 60) : rf_J n t s q z M0 M1 := by
  subst e
  obtain ⟨S, ⟨c1, c2, c3, c4, c5, c6, c7, c8, c9, c10, c11, c12⟩, K⟩ := J
  have b0 := c1 (51, 0, 30) (by decide) 0
  have b1 := c1 (51, 0, 30) (by decide) 1
  dsimp only at b0 b1
  have d0 := c2 (1551, 0, 1300) (by decide)
  have d1 := c2 (1554, 0, 1300) (by decide)
  have d2 := c2 (1606, 0, 400) (by decide)
  have d3 := c2 (1580, 0, 2000) (by decide)
  dsimp only at d0 d1 d2 d3
  have d4 : (0 : Int) ≤ (if z_fi M 1579 (n + 40) = 0 then 1 else 0) := by split <;> decide
  have k9 := c12
  unfold rf_C12 at k9
  dsimp only at k9
  have h0 : 0 ≤ v.toInt := by omega
  have h1 : v.toInt ≤ 1300 := by omega
  refine ⟨S, ⟨?_, ?_, ?_, ?_, ?_, ?_, ?_, ?_, ?_, ?_, ?_, ?_⟩, rf_Kf (by decide) (by decide) K⟩
  · exact c1
  · intro r ht
    by_cases h : r.1 = 1551
    · have e1 : r = (1551, 0, 1300) := by revert r; decide
      subst e1
      show 0 ≤ (z_fi (z_sfi M 1551 (n + 40) v) 1551 (n + 40)).toInt ∧ (z_fi (z_sfi M 1551 (n + 40) v) 1551 (n + 40)).toInt ≤ 1300
      rw [rf_ef]; exact ⟨h0, h1⟩
    · show r.2.1 ≤ (z_fi (z_sfi M 1551 (n + 40) v) r.1 (n + 40)).toInt ∧ (z_fi (z_sfi M 1551 (n + 40) v) r.1 (n + 40)).toInt ≤ r.2.2
      rw [rf_nf h]; exact c2 r ht
  · exact c3
  · exact c4.congr (fun _ _ => rfl) (fun y hy => rf_nf (by revert hy; revert y; decide))
  · exact c5
  · exact c6.congr (fun _ _ => rfl) (fun y hy => rf_nf (by revert hy; revert y; decide))
  · exact c7
  · exact c8.congr (fun _ _ => rfl) (fun y hy => rf_nf (by revert hy; revert y; decide))
  · exact c9.congr (fun y hy => rf_nf (by revert hy; revert y; decide))
  · exact c10
  · show (z_fi M 1554 (n + 40)).toInt + (rf_c (fun k => decide (¬ z_ai M (n + 50) k = -1)) (z_ai M (n + 51) 0).toInt.toNat : Nat) + (rf_c (fun k => decide (¬ z_ai M (n + 50) (30 + k) = -1)) (z_ai M (n + 51) 1).toInt.toNat : Nat) ≤ (z_fi (z_sfi M 1551 (n + 40) v) 1551 (n + 40)).toInt
    rw [rf_ef, hv]
    have e : (z_fi M 1554 (n + 40)).toInt + (rf_c (fun k => decide (¬ z_ai M (n + 50) k = -1)) (z_ai M (n + 51) 0).toInt.toNat : Nat) + (rf_c (fun k => decide (¬ z_ai M (n + 50) (30 + k) = -1)) (z_ai M (n + 51) 1).toInt.toNat : Nat) ≤ (z_fi M 1551 (n + 40)).toInt := c11
    omega
  · unfold rf_C12 at c12 ⊢
    simp only [rf_nf (show (1536 : Nat) ≠ 1551 by decide), rf_nf (show (1554 : Nat) ≠ 1551 by decide), rf_nf (show (1559 : Nat) ≠ 1551 by decide), rf_nf (show (1561 : Nat) ≠ 1551 by decide), rf_nf (show (1579 : Nat) ≠ 1551 by decide), rf_nf (show (1580 : Nat) ≠ 1551 by decide), rf_nf (show (1606 : Nat) ≠ 1551 by decide), rf_ef, zq_fi_sai, zq_ai_sfi] at c12 ⊢
    rw [hv]; omega
theorem w_1551dn {v : Int32} (J : rf_J n t s q z M0 M) (e : M1 = z_sfi M 1551 (n + 40) v) (hv : v.toInt + 60 = (z_fi M 1551 (n + 40)).toInt) (h0 : 0 ≤ v.toInt) (hC : (z_fi M 1554 (n + 40)).toInt + (rf_c (fun k => decide (¬ z_ai M (n + 50) k = -1)) (z_ai M (n + 51) 0).toInt.toNat : Nat) + (rf_c (fun k => decide (¬ z_ai M (n + 50) (30 + k) = -1)) (z_ai M (n + 51) 1).toInt.toNat : Nat) ≤ v.toInt) : rf_J n (t + 60) (s + 60) (q + 60) z M0 M1 := by
  subst e
  obtain ⟨S, ⟨c1, c2, c3, c4, c5, c6, c7, c8, c9, c10, c11, c12⟩, K⟩ := J
  have b0 := c1 (51, 0, 30) (by decide) 0
  have b1 := c1 (51, 0, 30) (by decide) 1
  dsimp only at b0 b1
  have d0 := c2 (1551, 0, 1300) (by decide)
  have d1 := c2 (1554, 0, 1300) (by decide)
  have d2 := c2 (1606, 0, 400) (by decide)
  have d3 := c2 (1580, 0, 2000) (by decide)
  dsimp only at d0 d1 d2 d3
  have d4 : (0 : Int) ≤ (if z_fi M 1579 (n + 40) = 0 then 1 else 0) := by split <;> decide
  have k9 := c12
  unfold rf_C12 at k9
  dsimp only at k9
  have h1 : v.toInt ≤ 1300 := by omega
  refine ⟨S, ⟨?_, ?_, ?_, ?_, ?_, ?_, ?_, ?_, ?_, ?_, ?_, ?_⟩, rf_Kf (by decide) (by decide) K⟩
  · exact c1
  · intro r ht
    by_cases h : r.1 = 1551
    · have e1 : r = (1551, 0, 1300) := by revert r; decide
      subst e1
      show 0 ≤ (z_fi (z_sfi M 1551 (n + 40) v) 1551 (n + 40)).toInt ∧ (z_fi (z_sfi M 1551 (n + 40) v) 1551 (n + 40)).toInt ≤ 1300
      rw [rf_ef]; exact ⟨h0, h1⟩
    · show r.2.1 ≤ (z_fi (z_sfi M 1551 (n + 40) v) r.1 (n + 40)).toInt ∧ (z_fi (z_sfi M 1551 (n + 40) v) r.1 (n + 40)).toInt ≤ r.2.2
      rw [rf_nf h]; exact c2 r ht
  · exact c3
  · exact c4.congr (fun _ _ => rfl) (fun y hy => rf_nf (by revert hy; revert y; decide))
  · exact c5
  · exact c6.congr (fun _ _ => rfl) (fun y hy => rf_nf (by revert hy; revert y; decide))
  · exact c7
  · exact c8.congr (fun _ _ => rfl) (fun y hy => rf_nf (by revert hy; revert y; decide))
  · exact c9.congr (fun y hy => rf_nf (by revert hy; revert y; decide))
  · exact c10
  · show (z_fi M 1554 (n + 40)).toInt + (rf_c (fun k => decide (¬ z_ai M (n + 50) k = -1)) (z_ai M (n + 51) 0).toInt.toNat : Nat) + (rf_c (fun k => decide (¬ z_ai M (n + 50) (30 + k) = -1)) (z_ai M (n + 51) 1).toInt.toNat : Nat) ≤ (z_fi (z_sfi M 1551 (n + 40) v) 1551 (n + 40)).toInt
    rw [rf_ef]; exact hC
  · unfold rf_C12 at c12 ⊢
    simp only [rf_nf (show (1536 : Nat) ≠ 1551 by decide), rf_nf (show (1554 : Nat) ≠ 1551 by decide), rf_nf (show (1559 : Nat) ≠ 1551 by decide), rf_nf (show (1561 : Nat) ≠ 1551 by decide), rf_nf (show (1579 : Nat) ≠ 1551 by decide), rf_nf (show (1580 : Nat) ≠ 1551 by decide), rf_nf (show (1606 : Nat) ≠ 1551 by decide), rf_ef, zq_fi_sai, zq_ai_sfi] at c12 ⊢
    omega
end RFQ
