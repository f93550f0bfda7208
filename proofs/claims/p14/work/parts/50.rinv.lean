/-! ===== THE REFERENCE'S INVARIANT ===== -/
/-- how many below k keep p -/
def rf_c (p : Nat → Bool) : Nat → Nat
  | 0 => 0
  | k + 1 => rf_c p k + (if p k then 1 else 0)
def rf_RA : List (Nat × Int × Int) := [(42, 0, 9), (43, 0, 30), (50, -1, 1299), (51, 0, 30), (53, 0, 399), (54, 0, 1), (55, 0, 1299), (58, 0, 3599), (59, 0, 1), (66, 0, 200), (67, 0, 200), (71, 0, 1), (73, 0, 3), (74, 0, 200), (75, 0, 200), (83, 0, 400), (89, 0, 2000), (97, 0, 400), (98, -6400, 6400), (99, 0, 400)]
def rf_RF : List (Nat × Int × Int) := [(1536, 0, 2000), (1551, 0, 1300), (1554, 0, 1300), (1559, 0, 3600), (1561, 0, 3600), (1575, -1, 1), (1578, -1, 9), (1579, 0, 1), (1580, 0, 2000), (1585, 0, 2147483647), (1590, 0, 3), (1606, 0, 400)]
def rf_C1 (A : Nat → Nat → Int32) : Prop := ∀ r, r ∈ rf_RA → ∀ j, r.2.1 ≤ (A r.1 j).toInt ∧ (A r.1 j).toInt ≤ r.2.2
def rf_C2 (F : Nat → Int32) : Prop := ∀ r, r ∈ rf_RF → r.2.1 ≤ (F r.1).toInt ∧ (F r.1).toInt ≤ r.2.2
def rf_C3 (A : Nat → Nat → Int32) : Prop := ∀ j, j < 4 → (A 67 j).toInt ≤ (A 66 j).toInt
def rf_C4 (F : Nat → Int32) (A : Nat → Nat → Int32) : Prop := ∀ k, 0 ≤ (A 72 k).toInt ∧ (A 72 k).toInt ≤ (F 1536).toInt
def rf_C5 (A : Nat → Nat → Int32) : Prop := ∀ k, (A 74 k).toInt + (A 75 k).toInt ≤ 200
def rf_C6 (z : Nat) (F : Nat → Int32) (A : Nat → Nat → Int32) : Prop := ∀ p, p < 2 → 32 ≤ (A 84 p).toInt ∧ 125 * (A 84 p).toInt ≤ 3200000000 + 2000 * (A 97 p).toInt + 2 * ((F 1536).toInt * (F 1536).toInt * (F 1536).toInt) ∧ 0 ≤ (A 101 p).toInt ∧ (A 101 p).toInt ≤ (F 1536).toInt ∧ 125 * (A 103 p).toInt ≤ 3200000000 + 2000 * (A 97 p).toInt + 2 * ((A 101 p).toInt * (A 101 p).toInt * (A 101 p).toInt) ∧ (A 97 p).toInt + (rf_c (fun k => decide (A 76 k = 0)) 400 : Nat) + (z : Nat) ≤ 400 ∧ (A 99 p).toInt ≤ (A 97 p).toInt
def rf_C7 (A : Nat → Nat → Int32) : Prop := (∀ i, (i % 15 = 0 → 0 ≤ (A 61 i).toInt ∧ (A 61 i).toInt ≤ 4) ∧ (1 ≤ i % 15 ∧ i % 15 ≤ 8 → 0 ≤ (A 61 i).toInt ∧ (A 61 i).toInt ≤ 399)) ∧ ∀ t : Nat, 0 < (A 61 (15 * t + 9)).toInt → 0 < (A 61 (15 * t)).toInt
def rf_C8 (F : Nat → Int32) (A : Nat → Nat → Int32) : Prop := 0 < (F 1576).toInt → ∃ k, k < 400 ∧ ¬ A 63 k = 0
def rf_C9 (F : Nat → Int32) : Prop := (F 1577 = 1 → 10 ≤ (F 1581).toInt ∧ (F 1581).toInt ≤ 4000) ∧ (F 1580).toInt ≤ (F 1536).toInt
def rf_C10 (A : Nat → Nat → Int32) : Prop := ∀ k, A 52 k = 1 → (A 53 k).toInt ≤ 21
def rf_C11 (F : Nat → Int32) (A : Nat → Nat → Int32) : Prop := (F 1554).toInt + (rf_c (fun k => decide (¬ A 50 k = -1)) (A 51 0).toInt.toNat : Nat) + (rf_c (fun k => decide (¬ A 50 (30 + k) = -1)) (A 51 1).toInt.toNat : Nat) ≤ (F 1551).toInt
def rf_C12 (t s q : Nat) (F : Nat → Int32) (A : Nat → Nat → Int32) : Prop := (F 1551).toInt + (400 - (F 1606).toInt) + (if F 1579 = 0 then 1 else 0) + (2000 - (F 1580).toInt) / 10 + (t : Nat) ≤ 1300 ∧ (F 1559).toInt + (F 1551).toInt + (2000 - (F 1536).toInt) + (400 - (F 1606).toInt) + (if F 1579 = 0 then 1 else 0) + (2000 - (F 1580).toInt) / 10 + (s : Nat) ≤ 3600 + (rf_c (fun k => decide ((A 56 k).toInt ≤ (F 1536).toInt)) (F 1554).toInt.toNat : Nat) ∧ (F 1561).toInt + (F 1551).toInt + (2000 - (F 1536).toInt) + (400 - (F 1606).toInt) + (if F 1579 = 0 then 1 else 0) + (2000 - (F 1580).toInt) / 10 + (q : Nat) ≤ 3600 + (rf_c (fun k => decide ((A 56 k).toInt ≤ (F 1536).toInt)) (F 1554).toInt.toNat : Nat)
def rf_I (t s q z : Nat) (F : Nat → Int32) (A : Nat → Nat → Int32) : Prop := rf_C1 A ∧ rf_C2 F ∧ rf_C3 A ∧ rf_C4 F A ∧ rf_C5 A ∧ rf_C6 z F A ∧ rf_C7 A ∧ rf_C8 F A ∧ rf_C9 F ∧ rf_C10 A ∧ rf_C11 F A ∧ rf_C12 t s q F A
def rf_K (n : Nat) (M0 M : z_Mem) : Prop := z_fr M = z_fr M0 ∧ z_ln M = z_ln M0 ∧ z_ar M = z_ar M0 ∧ z_al M = z_al M0 ∧ z_sz M = z_sz M0 ∧ z_cl M = z_cl M0 ∧ z_sl M = z_sl M0 ∧ (∀ g a, g < 1536 → z_fi M g a = z_fi M0 g a) ∧ (∀ a j, a < n + 41 ∨ n + 107 ≤ a → z_ai M a j = z_ai M0 a j) ∧ (∀ x, x ∈ [45, 86, 66, 56] → z_ai M (n + x) = z_ai M0 (n + x)) ∧ (∀ g, g ∈ [1563, 1536, 1554, 1630] → z_fi M g (n + 40) = z_fi M0 g (n + 40))
def rf_J (n t s q z : Nat) (M0 M : z_Mem) : Prop := y_S n M ∧ rf_I t s q z (fun g => z_fi M g (n + 40)) (fun x => z_ai M (n + x)) ∧ rf_K n M0 M
theorem rf_Krf {n : Nat} {M : z_Mem} : rf_K n M M := ⟨rfl, rfl, rfl, rfl, rfl, rfl, rfl, fun _ _ _ => rfl, fun _ _ _ => rfl, fun _ _ => rfl, fun _ _ => rfl⟩
theorem rf_Ktr {n : Nat} {M0 M M1 : z_Mem} (h : rf_K n M0 M) (k : rf_K n M M1) : rf_K n M0 M1 := by
  obtain ⟨a1, a2, a3, a4, a5, a6, a7, a8, a9, a10, a11⟩ := h
  obtain ⟨b1, b2, b3, b4, b5, b6, b7, b8, b9, b10, b11⟩ := k
  exact ⟨b1.trans a1, b2.trans a2, b3.trans a3, b4.trans a4, b5.trans a5, b6.trans a6, b7.trans a7, fun g a h => (b8 g a h).trans (a8 g a h), fun a j h => (b9 a j h).trans (a9 a j h), fun x h => (b10 x h).trans (a10 x h), fun g h => (b11 g h).trans (a11 g h)⟩
theorem rf_tr {n t s q z t1 s1 q1 z1 : Nat} {M0 M M1 : z_Mem} (h : rf_J n t1 s1 q1 z1 M0 M) (k : rf_J n t s q z M M1) : rf_J n t s q z M0 M1 := ⟨k.1, k.2.1, rf_Ktr h.2.2 k.2.2⟩
theorem rf_w {n t s q z t1 s1 q1 z1 : Nat} {M0 M : z_Mem} (h : rf_J n t1 s1 q1 z1 M0 M) (ht : t ≤ t1) (hs : s ≤ s1) (hq : q ≤ q1) (hz : z ≤ z1) : rf_J n t s q z M0 M := by
  obtain ⟨S, ⟨c1, c2, c3, c4, c5, c6, c7, c8, c9, c10, c11, c12⟩, K⟩ := h
  refine ⟨S, ⟨c1, c2, c3, c4, c5, ?_, c7, c8, c9, c10, c11, ?_⟩, K⟩
  · intro p hp
    obtain ⟨g1, g2, g3, g4, g5, g6, g7⟩ := c6 p hp
    exact ⟨g1, g2, g3, g4, g5, by omega, g7⟩
  · unfold rf_C12 at c12 ⊢
    omega
theorem rf_rf {n t s q z : Nat} {M0 M : z_Mem} (h : rf_J n t s q z M0 M) : rf_J n t s q z M M := ⟨h.1, h.2.1, rf_Krf⟩
section RFC
variable {t s q z : Nat} {F F1 : Nat → Int32} {A A1 : Nat → Nat → Int32}
theorem rf_C1.congr (hA : ∀ x, x ∈ ([42, 43, 50, 51, 53, 54, 55, 58, 59, 66, 67, 71, 73, 74, 75, 83, 89, 97, 98, 99] : List Nat) → A1 x = A x) (H : rf_C1 A) : rf_C1 A1 := fun r ht => by rw [hA r.1 (by revert r; decide)]; exact H r ht
theorem rf_C2.congr (hF : ∀ g, g ∈ ([1536, 1551, 1554, 1559, 1561, 1575, 1578, 1579, 1580, 1585, 1590, 1606] : List Nat) → F1 g = F g) (H : rf_C2 F) : rf_C2 F1 := fun r ht => by rw [hF r.1 (by revert r; decide)]; exact H r ht
theorem rf_C3.congr (hA : ∀ x, x ∈ ([66, 67] : List Nat) → A1 x = A x) (H : rf_C3 A) : rf_C3 A1 := by unfold rf_C3 at *; simp only [hA 66 (by decide), hA 67 (by decide)]; exact H
theorem rf_C4.congr (hA : ∀ x, x ∈ ([72] : List Nat) → A1 x = A x) (hF : ∀ g, g ∈ ([1536] : List Nat) → F1 g = F g) (H : rf_C4 F A) : rf_C4 F1 A1 := by unfold rf_C4 at *; simp only [hA 72 (by decide), hF 1536 (by decide)]; exact H
theorem rf_C5.congr (hA : ∀ x, x ∈ ([74, 75] : List Nat) → A1 x = A x) (H : rf_C5 A) : rf_C5 A1 := by unfold rf_C5 at *; simp only [hA 74 (by decide), hA 75 (by decide)]; exact H
theorem rf_C6.congr (hA : ∀ x, x ∈ ([76, 84, 97, 99, 101, 103] : List Nat) → A1 x = A x) (hF : ∀ g, g ∈ ([1536] : List Nat) → F1 g = F g) (H : rf_C6 z F A) : rf_C6 z F1 A1 := by unfold rf_C6 at *; simp only [hA 76 (by decide), hA 84 (by decide), hA 97 (by decide), hA 99 (by decide), hA 101 (by decide), hA 103 (by decide), hF 1536 (by decide)]; exact H
theorem rf_C7.congr (hA : ∀ x, x ∈ ([61] : List Nat) → A1 x = A x) (H : rf_C7 A) : rf_C7 A1 := by unfold rf_C7 at *; simp only [hA 61 (by decide)]; exact H
theorem rf_C8.congr (hA : ∀ x, x ∈ ([63] : List Nat) → A1 x = A x) (hF : ∀ g, g ∈ ([1576] : List Nat) → F1 g = F g) (H : rf_C8 F A) : rf_C8 F1 A1 := by unfold rf_C8 at *; simp only [hA 63 (by decide), hF 1576 (by decide)]; exact H
theorem rf_C9.congr (hF : ∀ g, g ∈ ([1577, 1581, 1580, 1536] : List Nat) → F1 g = F g) (H : rf_C9 F) : rf_C9 F1 := by unfold rf_C9 at *; simp only [hF 1577 (by decide), hF 1581 (by decide), hF 1580 (by decide), hF 1536 (by decide)]; exact H
theorem rf_C10.congr (hA : ∀ x, x ∈ ([52, 53] : List Nat) → A1 x = A x) (H : rf_C10 A) : rf_C10 A1 := by unfold rf_C10 at *; simp only [hA 52 (by decide), hA 53 (by decide)]; exact H
theorem rf_C11.congr (hA : ∀ x, x ∈ ([50, 51] : List Nat) → A1 x = A x) (hF : ∀ g, g ∈ ([1551, 1554] : List Nat) → F1 g = F g) (H : rf_C11 F A) : rf_C11 F1 A1 := by unfold rf_C11 at *; simp only [hA 50 (by decide), hA 51 (by decide), hF 1551 (by decide), hF 1554 (by decide)]; exact H
theorem rf_C12.congr (hA : ∀ x, x ∈ ([56] : List Nat) → A1 x = A x) (hF : ∀ g, g ∈ ([1536, 1551, 1554, 1559, 1561, 1579, 1580, 1606] : List Nat) → F1 g = F g) (H : rf_C12 t s q F A) : rf_C12 t s q F1 A1 := by unfold rf_C12 at *; simp only [hA 56 (by decide), hF 1536 (by decide), hF 1551 (by decide), hF 1554 (by decide), hF 1559 (by decide), hF 1561 (by decide), hF 1579 (by decide), hF 1580 (by decide), hF 1606 (by decide)]; exact H
end RFC
def rf_oa (x : Nat) : Bool := decide (41 ≤ x ∧ x < 107) && ([42, 43, 45, 50, 51, 52, 53, 54, 55, 56, 58, 59, 61, 63, 66, 67, 71, 72, 73, 74, 75, 76, 83, 84, 86, 89, 97, 98, 99, 101, 103] : List Nat).all (fun k => !(k == x))
def rf_of (g : Nat) : Bool := decide (1536 ≤ g) && ([1536, 1551, 1554, 1559, 1561, 1563, 1575, 1576, 1577, 1578, 1579, 1580, 1581, 1585, 1590, 1606, 1630] : List Nat).all (fun k => !(k == g))
section RFW
variable {n t s q z : Nat} {M0 M M1 : z_Mem}
theorem rf_na {x y j : Nat} {v : Int32} (h : y ≠ x) : z_ai (z_sai M (n + x) j v) (n + y) = z_ai M (n + y) := by
  funext i; rw [zq_ai_sai, if_neg (by omega)]
theorem rf_nf {g k a b : Nat} {v : Int32} (h : k ≠ g) : z_fi (z_sfi M g a v) k b = z_fi M k b := by
  rw [zq_fi_sfi, if_neg h]
theorem rf_ea {x j : Nat} {v : Int32} {i : Nat} : z_ai (z_sai M (n + x) j v) (n + x) i = if i = j then v else z_ai M (n + x) i := by
  rw [zq_ai_sai, if_pos rfl]
theorem rf_ef {g : Nat} {v : Int32} {a : Nat} : z_fi (z_sfi M g a v) g a = v := by
  rw [zq_fi_sfi, if_pos rfl, if_pos rfl]
theorem rf_Ka {x j : Nat} {v : Int32} (h1 : 41 ≤ x) (h2 : x < 107) (hx : x ∉ ([45, 86, 66, 56] : List Nat)) (K : rf_K n M0 M) : rf_K n M0 (z_sai M (n + x) j v) := by
  obtain ⟨a1, a2, a3, a4, a5, a6, a7, a8, a9, a10, a11⟩ := K
  refine ⟨a1, a2, a3, a4, a5, a6, a7, a8, fun a i h => ?_, fun y hy => ?_, a11⟩
  · rw [zq_ai_sai, if_neg (by omega)]; exact a9 a i h
  · rw [rf_na (fun (e : y = x) => hx (e ▸ hy))]; exact a10 y hy
theorem rf_Kf {g : Nat} {v : Int32} (h1 : 1536 ≤ g) (hx : g ∉ ([1563, 1536, 1554, 1630] : List Nat)) (K : rf_K n M0 M) : rf_K n M0 (z_sfi M g (n + 40) v) := by
  obtain ⟨a1, a2, a3, a4, a5, a6, a7, a8, a9, a10, a11⟩ := K
  refine ⟨a1, a2, a3, a4, a5, a6, a7, fun k a h => ?_, a9, a10, fun y hy => ?_⟩
  · rw [zq_fi_sfi, if_neg (by omega)]; exact a8 k a h
  · rw [rf_nf (fun e => hx (by rw [← e]; simp only [List.mem_cons, List.not_mem_nil, or_false] at hy ⊢; omega))]; exact a11 y hy
theorem w_sai {x j : Nat} {v : Int32} (J : rf_J n t s q z M0 M) (e : M1 = z_sai M (n + x) j v) (hx : rf_oa x = true) : rf_J n t s q z M0 M1 := by
  subst e
  obtain ⟨S, ⟨c1, c2, c3, c4, c5, c6, c7, c8, c9, c10, c11, c12⟩, K⟩ := J
  unfold rf_oa at hx
  rw [Bool.and_eq_true, decide_eq_true_eq, List.all_eq_true] at hx
  have hq : ∀ y, y ∈ ([42, 43, 45, 50, 51, 52, 53, 54, 55, 56, 58, 59, 61, 63, 66, 67, 71, 72, 73, 74, 75, 76, 83, 84, 86, 89, 97, 98, 99, 101, 103] : List Nat) → y ≠ x := fun y hy e => by have := hx.2 y hy; rw [e] at this; simp at this
  refine ⟨S, ⟨?_, ?_, ?_, ?_, ?_, ?_, ?_, ?_, ?_, ?_, ?_, ?_⟩, rf_Ka hx.1.1 hx.1.2 (fun h => hq x (by revert h; simp only [List.mem_cons, List.not_mem_nil, or_false]; omega) rfl) K⟩
  · exact c1.congr (fun y hy => rf_na (hq y (by revert hy; simp only [List.mem_cons, List.not_mem_nil, or_false]; omega)))
  · exact c2
  · exact c3.congr (fun y hy => rf_na (hq y (by revert hy; simp only [List.mem_cons, List.not_mem_nil, or_false]; omega)))
  · exact c4.congr (fun y hy => rf_na (hq y (by revert hy; simp only [List.mem_cons, List.not_mem_nil, or_false]; omega))) (fun _ _ => rfl)
  · exact c5.congr (fun y hy => rf_na (hq y (by revert hy; simp only [List.mem_cons, List.not_mem_nil, or_false]; omega)))
  · exact c6.congr (fun y hy => rf_na (hq y (by revert hy; simp only [List.mem_cons, List.not_mem_nil, or_false]; omega))) (fun _ _ => rfl)
  · exact c7.congr (fun y hy => rf_na (hq y (by revert hy; simp only [List.mem_cons, List.not_mem_nil, or_false]; omega)))
  · exact c8.congr (fun y hy => rf_na (hq y (by revert hy; simp only [List.mem_cons, List.not_mem_nil, or_false]; omega))) (fun _ _ => rfl)
  · exact c9
  · exact c10.congr (fun y hy => rf_na (hq y (by revert hy; simp only [List.mem_cons, List.not_mem_nil, or_false]; omega)))
  · exact c11.congr (fun y hy => rf_na (hq y (by revert hy; simp only [List.mem_cons, List.not_mem_nil, or_false]; omega))) (fun _ _ => rfl)
  · exact c12.congr (fun y hy => rf_na (hq y (by revert hy; simp only [List.mem_cons, List.not_mem_nil, or_false]; omega))) (fun _ _ => rfl)
theorem w_sfi {g : Nat} {v : Int32} (J : rf_J n t s q z M0 M) (e : M1 = z_sfi M g (n + 40) v) (hx : rf_of g = true) : rf_J n t s q z M0 M1 := by
  subst e
  obtain ⟨S, ⟨c1, c2, c3, c4, c5, c6, c7, c8, c9, c10, c11, c12⟩, K⟩ := J
  unfold rf_of at hx
  rw [Bool.and_eq_true, decide_eq_true_eq, List.all_eq_true] at hx
  have hq : ∀ y, y ∈ ([1536, 1551, 1554, 1559, 1561, 1563, 1575, 1576, 1577, 1578, 1579, 1580, 1581, 1585, 1590, 1606, 1630] : List Nat) → y ≠ g := fun y hy e => by have := hx.2 y hy; rw [e] at this; simp at this
  refine ⟨S, ⟨?_, ?_, ?_, ?_, ?_, ?_, ?_, ?_, ?_, ?_, ?_, ?_⟩, rf_Kf hx.1 (fun h => hq g (by revert h; simp only [List.mem_cons, List.not_mem_nil, or_false]; omega) rfl) K⟩
  · exact c1
  · exact c2.congr (fun y hy => rf_nf (hq y (by revert hy; simp only [List.mem_cons, List.not_mem_nil, or_false]; omega)))
  · exact c3
  · exact c4.congr (fun _ _ => rfl) (fun y hy => rf_nf (hq y (by revert hy; simp only [List.mem_cons, List.not_mem_nil, or_false]; omega)))
  · exact c5
  · exact c6.congr (fun _ _ => rfl) (fun y hy => rf_nf (hq y (by revert hy; simp only [List.mem_cons, List.not_mem_nil, or_false]; omega)))
  · exact c7
  · exact c8.congr (fun _ _ => rfl) (fun y hy => rf_nf (hq y (by revert hy; simp only [List.mem_cons, List.not_mem_nil, or_false]; omega)))
  · exact c9.congr (fun y hy => rf_nf (hq y (by revert hy; simp only [List.mem_cons, List.not_mem_nil, or_false]; omega)))
  · exact c10
  · exact c11.congr (fun _ _ => rfl) (fun y hy => rf_nf (hq y (by revert hy; simp only [List.mem_cons, List.not_mem_nil, or_false]; omega)))
  · exact c12.congr (fun _ _ => rfl) (fun y hy => rf_nf (hq y (by revert hy; simp only [List.mem_cons, List.not_mem_nil, or_false]; omega)))
theorem a_42 (J : rf_J n t s q z M0 M) (j : Nat) : 0 ≤ (z_ai M (n + 42) j).toInt ∧ (z_ai M (n + 42) j).toInt ≤ 9 := J.2.1.1 (42, 0, 9) (by decide) j
theorem a_43 (J : rf_J n t s q z M0 M) (j : Nat) : 0 ≤ (z_ai M (n + 43) j).toInt ∧ (z_ai M (n + 43) j).toInt ≤ 30 := J.2.1.1 (43, 0, 30) (by decide) j
theorem a_50 (J : rf_J n t s q z M0 M) (j : Nat) : -1 ≤ (z_ai M (n + 50) j).toInt ∧ (z_ai M (n + 50) j).toInt ≤ 1299 := J.2.1.1 (50, -1, 1299) (by decide) j
theorem a_51 (J : rf_J n t s q z M0 M) (j : Nat) : 0 ≤ (z_ai M (n + 51) j).toInt ∧ (z_ai M (n + 51) j).toInt ≤ 30 := J.2.1.1 (51, 0, 30) (by decide) j
theorem a_53 (J : rf_J n t s q z M0 M) (j : Nat) : 0 ≤ (z_ai M (n + 53) j).toInt ∧ (z_ai M (n + 53) j).toInt ≤ 399 := J.2.1.1 (53, 0, 399) (by decide) j
theorem a_54 (J : rf_J n t s q z M0 M) (j : Nat) : 0 ≤ (z_ai M (n + 54) j).toInt ∧ (z_ai M (n + 54) j).toInt ≤ 1 := J.2.1.1 (54, 0, 1) (by decide) j
theorem a_55 (J : rf_J n t s q z M0 M) (j : Nat) : 0 ≤ (z_ai M (n + 55) j).toInt ∧ (z_ai M (n + 55) j).toInt ≤ 1299 := J.2.1.1 (55, 0, 1299) (by decide) j
theorem a_58 (J : rf_J n t s q z M0 M) (j : Nat) : 0 ≤ (z_ai M (n + 58) j).toInt ∧ (z_ai M (n + 58) j).toInt ≤ 3599 := J.2.1.1 (58, 0, 3599) (by decide) j
theorem a_59 (J : rf_J n t s q z M0 M) (j : Nat) : 0 ≤ (z_ai M (n + 59) j).toInt ∧ (z_ai M (n + 59) j).toInt ≤ 1 := J.2.1.1 (59, 0, 1) (by decide) j
theorem a_66 (J : rf_J n t s q z M0 M) (j : Nat) : 0 ≤ (z_ai M (n + 66) j).toInt ∧ (z_ai M (n + 66) j).toInt ≤ 200 := J.2.1.1 (66, 0, 200) (by decide) j
theorem a_67 (J : rf_J n t s q z M0 M) (j : Nat) : 0 ≤ (z_ai M (n + 67) j).toInt ∧ (z_ai M (n + 67) j).toInt ≤ 200 := J.2.1.1 (67, 0, 200) (by decide) j
theorem a_71 (J : rf_J n t s q z M0 M) (j : Nat) : 0 ≤ (z_ai M (n + 71) j).toInt ∧ (z_ai M (n + 71) j).toInt ≤ 1 := J.2.1.1 (71, 0, 1) (by decide) j
theorem a_73 (J : rf_J n t s q z M0 M) (j : Nat) : 0 ≤ (z_ai M (n + 73) j).toInt ∧ (z_ai M (n + 73) j).toInt ≤ 3 := J.2.1.1 (73, 0, 3) (by decide) j
theorem a_74 (J : rf_J n t s q z M0 M) (j : Nat) : 0 ≤ (z_ai M (n + 74) j).toInt ∧ (z_ai M (n + 74) j).toInt ≤ 200 := J.2.1.1 (74, 0, 200) (by decide) j
theorem a_75 (J : rf_J n t s q z M0 M) (j : Nat) : 0 ≤ (z_ai M (n + 75) j).toInt ∧ (z_ai M (n + 75) j).toInt ≤ 200 := J.2.1.1 (75, 0, 200) (by decide) j
theorem a_83 (J : rf_J n t s q z M0 M) (j : Nat) : 0 ≤ (z_ai M (n + 83) j).toInt ∧ (z_ai M (n + 83) j).toInt ≤ 400 := J.2.1.1 (83, 0, 400) (by decide) j
theorem a_89 (J : rf_J n t s q z M0 M) (j : Nat) : 0 ≤ (z_ai M (n + 89) j).toInt ∧ (z_ai M (n + 89) j).toInt ≤ 2000 := J.2.1.1 (89, 0, 2000) (by decide) j
theorem a_97 (J : rf_J n t s q z M0 M) (j : Nat) : 0 ≤ (z_ai M (n + 97) j).toInt ∧ (z_ai M (n + 97) j).toInt ≤ 400 := J.2.1.1 (97, 0, 400) (by decide) j
theorem a_98 (J : rf_J n t s q z M0 M) (j : Nat) : -6400 ≤ (z_ai M (n + 98) j).toInt ∧ (z_ai M (n + 98) j).toInt ≤ 6400 := J.2.1.1 (98, -6400, 6400) (by decide) j
theorem a_99 (J : rf_J n t s q z M0 M) (j : Nat) : 0 ≤ (z_ai M (n + 99) j).toInt ∧ (z_ai M (n + 99) j).toInt ≤ 400 := J.2.1.1 (99, 0, 400) (by decide) j
theorem f_1536 (J : rf_J n t s q z M0 M) : 0 ≤ (z_fi M 1536 (n + 40)).toInt ∧ (z_fi M 1536 (n + 40)).toInt ≤ 2000 := J.2.1.2.1 (1536, 0, 2000) (by decide)
theorem f_1551 (J : rf_J n t s q z M0 M) : 0 ≤ (z_fi M 1551 (n + 40)).toInt ∧ (z_fi M 1551 (n + 40)).toInt ≤ 1300 := J.2.1.2.1 (1551, 0, 1300) (by decide)
theorem f_1554 (J : rf_J n t s q z M0 M) : 0 ≤ (z_fi M 1554 (n + 40)).toInt ∧ (z_fi M 1554 (n + 40)).toInt ≤ 1300 := J.2.1.2.1 (1554, 0, 1300) (by decide)
theorem f_1559 (J : rf_J n t s q z M0 M) : 0 ≤ (z_fi M 1559 (n + 40)).toInt ∧ (z_fi M 1559 (n + 40)).toInt ≤ 3600 := J.2.1.2.1 (1559, 0, 3600) (by decide)
theorem f_1561 (J : rf_J n t s q z M0 M) : 0 ≤ (z_fi M 1561 (n + 40)).toInt ∧ (z_fi M 1561 (n + 40)).toInt ≤ 3600 := J.2.1.2.1 (1561, 0, 3600) (by decide)
theorem f_1575 (J : rf_J n t s q z M0 M) : -1 ≤ (z_fi M 1575 (n + 40)).toInt ∧ (z_fi M 1575 (n + 40)).toInt ≤ 1 := J.2.1.2.1 (1575, -1, 1) (by decide)
theorem f_1578 (J : rf_J n t s q z M0 M) : -1 ≤ (z_fi M 1578 (n + 40)).toInt ∧ (z_fi M 1578 (n + 40)).toInt ≤ 9 := J.2.1.2.1 (1578, -1, 9) (by decide)
theorem f_1579 (J : rf_J n t s q z M0 M) : 0 ≤ (z_fi M 1579 (n + 40)).toInt ∧ (z_fi M 1579 (n + 40)).toInt ≤ 1 := J.2.1.2.1 (1579, 0, 1) (by decide)
theorem f_1580 (J : rf_J n t s q z M0 M) : 0 ≤ (z_fi M 1580 (n + 40)).toInt ∧ (z_fi M 1580 (n + 40)).toInt ≤ 2000 := J.2.1.2.1 (1580, 0, 2000) (by decide)
theorem f_1585 (J : rf_J n t s q z M0 M) : 0 ≤ (z_fi M 1585 (n + 40)).toInt ∧ (z_fi M 1585 (n + 40)).toInt ≤ 2147483647 := J.2.1.2.1 (1585, 0, 2147483647) (by decide)
theorem f_1590 (J : rf_J n t s q z M0 M) : 0 ≤ (z_fi M 1590 (n + 40)).toInt ∧ (z_fi M 1590 (n + 40)).toInt ≤ 3 := J.2.1.2.1 (1590, 0, 3) (by decide)
theorem f_1606 (J : rf_J n t s q z M0 M) : 0 ≤ (z_fi M 1606 (n + 40)).toInt ∧ (z_fi M 1606 (n + 40)).toInt ≤ 400 := J.2.1.2.1 (1606, 0, 400) (by decide)
end RFW
section RFX
variable {n t s q z : Nat} {M0 M M1 : z_Mem}
theorem w_42 {j : Nat} {v : Int32} (J : rf_J n t s q z M0 M) (e : M1 = z_sai M (n + 42) j v) (h0 : 0 ≤ v.toInt) (h1 : v.toInt ≤ 9) : rf_J n t s q z M0 M1 := by
  subst e
  obtain ⟨S, ⟨c1, c2, c3, c4, c5, c6, c7, c8, c9, c10, c11, c12⟩, K⟩ := J
  refine ⟨S, ⟨?_, ?_, ?_, ?_, ?_, ?_, ?_, ?_, ?_, ?_, ?_, ?_⟩, rf_Ka (by decide) (by decide) (by decide) K⟩
  · intro r ht i
    by_cases h : r.1 = 42
    · have e1 : r = (42, 0, 9) := by revert r; decide
      subst e1
      show 0 ≤ (z_ai (z_sai M (n + 42) j v) (n + 42) i).toInt ∧ (z_ai (z_sai M (n + 42) j v) (n + 42) i).toInt ≤ 9
      rw [rf_ea]
      split
      · exact ⟨h0, h1⟩
      · exact c1 (42, 0, 9) ht i
    · show r.2.1 ≤ (z_ai (z_sai M (n + 42) j v) (n + r.1) i).toInt ∧ (z_ai (z_sai M (n + 42) j v) (n + r.1) i).toInt ≤ r.2.2
      rw [rf_na h]; exact c1 r ht i
  · exact c2
  · exact c3.congr (fun y hy => rf_na (by revert hy; revert y; decide))
  · exact c4.congr (fun y hy => rf_na (by revert hy; revert y; decide)) (fun _ _ => rfl)
  · exact c5.congr (fun y hy => rf_na (by revert hy; revert y; decide))
  · exact c6.congr (fun y hy => rf_na (by revert hy; revert y; decide)) (fun _ _ => rfl)
  · exact c7.congr (fun y hy => rf_na (by revert hy; revert y; decide))
  · exact c8.congr (fun y hy => rf_na (by revert hy; revert y; decide)) (fun _ _ => rfl)
  · exact c9
  · exact c10.congr (fun y hy => rf_na (by revert hy; revert y; decide))
  · exact c11.congr (fun y hy => rf_na (by revert hy; revert y; decide)) (fun _ _ => rfl)
  · exact c12.congr (fun y hy => rf_na (by revert hy; revert y; decide)) (fun _ _ => rfl)
theorem w_43 {j : Nat} {v : Int32} (J : rf_J n t s q z M0 M) (e : M1 = z_sai M (n + 43) j v) (h0 : 0 ≤ v.toInt) (h1 : v.toInt ≤ 30) : rf_J n t s q z M0 M1 := by
  subst e
  obtain ⟨S, ⟨c1, c2, c3, c4, c5, c6, c7, c8, c9, c10, c11, c12⟩, K⟩ := J
  refine ⟨S, ⟨?_, ?_, ?_, ?_, ?_, ?_, ?_, ?_, ?_, ?_, ?_, ?_⟩, rf_Ka (by decide) (by decide) (by decide) K⟩
  · intro r ht i
    by_cases h : r.1 = 43
    · have e1 : r = (43, 0, 30) := by revert r; decide
      subst e1
      show 0 ≤ (z_ai (z_sai M (n + 43) j v) (n + 43) i).toInt ∧ (z_ai (z_sai M (n + 43) j v) (n + 43) i).toInt ≤ 30
      rw [rf_ea]
      split
      · exact ⟨h0, h1⟩
      · exact c1 (43, 0, 30) ht i
    · show r.2.1 ≤ (z_ai (z_sai M (n + 43) j v) (n + r.1) i).toInt ∧ (z_ai (z_sai M (n + 43) j v) (n + r.1) i).toInt ≤ r.2.2
      rw [rf_na h]; exact c1 r ht i
  · exact c2
  · exact c3.congr (fun y hy => rf_na (by revert hy; revert y; decide))
  · exact c4.congr (fun y hy => rf_na (by revert hy; revert y; decide)) (fun _ _ => rfl)
  · exact c5.congr (fun y hy => rf_na (by revert hy; revert y; decide))
  · exact c6.congr (fun y hy => rf_na (by revert hy; revert y; decide)) (fun _ _ => rfl)
  · exact c7.congr (fun y hy => rf_na (by revert hy; revert y; decide))
  · exact c8.congr (fun y hy => rf_na (by revert hy; revert y; decide)) (fun _ _ => rfl)
  · exact c9
  · exact c10.congr (fun y hy => rf_na (by revert hy; revert y; decide))
  · exact c11.congr (fun y hy => rf_na (by revert hy; revert y; decide)) (fun _ _ => rfl)
  · exact c12.congr (fun y hy => rf_na (by revert hy; revert y; decide)) (fun _ _ => rfl)
theorem w_54 {j : Nat} {v : Int32} (J : rf_J n t s q z M0 M) (e : M1 = z_sai M (n + 54) j v) (h0 : 0 ≤ v.toInt) (h1 : v.toInt ≤ 1) : rf_J n t s q z M0 M1 := by
  subst e
  obtain ⟨S, ⟨c1, c2, c3, c4, c5, c6, c7, c8, c9, c10, c11, c12⟩, K⟩ := J
  refine ⟨S, ⟨?_, ?_, ?_, ?_, ?_, ?_, ?_, ?_, ?_, ?_, ?_, ?_⟩, rf_Ka (by decide) (by decide) (by decide) K⟩
  · intro r ht i
    by_cases h : r.1 = 54
    · have e1 : r = (54, 0, 1) := by revert r; decide
      subst e1
      show 0 ≤ (z_ai (z_sai M (n + 54) j v) (n + 54) i).toInt ∧ (z_ai (z_sai M (n + 54) j v) (n + 54) i).toInt ≤ 1
      rw [rf_ea]
      split
      · exact ⟨h0, h1⟩
      · exact c1 (54, 0, 1) ht i
    · show r.2.1 ≤ (z_ai (z_sai M (n + 54) j v) (n + r.1) i).toInt ∧ (z_ai (z_sai M (n + 54) j v) (n + r.1) i).toInt ≤ r.2.2
      rw [rf_na h]; exact c1 r ht i
  · exact c2
  · exact c3.congr (fun y hy => rf_na (by revert hy; revert y; decide))
  · exact c4.congr (fun y hy => rf_na (by revert hy; revert y; decide)) (fun _ _ => rfl)
  · exact c5.congr (fun y hy => rf_na (by revert hy; revert y; decide))
  · exact c6.congr (fun y hy => rf_na (by revert hy; revert y; decide)) (fun _ _ => rfl)
  · exact c7.congr (fun y hy => rf_na (by revert hy; revert y; decide))
  · exact c8.congr (fun y hy => rf_na (by revert hy; revert y; decide)) (fun _ _ => rfl)
  · exact c9
  · exact c10.congr (fun y hy => rf_na (by revert hy; revert y; decide))
  · exact c11.congr (fun y hy => rf_na (by revert hy; revert y; decide)) (fun _ _ => rfl)
  · exact c12.congr (fun y hy => rf_na (by revert hy; revert y; decide)) (fun _ _ => rfl)
theorem w_55 {j : Nat} {v : Int32} (J : rf_J n t s q z M0 M) (e : M1 = z_sai M (n + 55) j v) (h0 : 0 ≤ v.toInt) (h1 : v.toInt ≤ 1299) : rf_J n t s q z M0 M1 := by
  subst e
  obtain ⟨S, ⟨c1, c2, c3, c4, c5, c6, c7, c8, c9, c10, c11, c12⟩, K⟩ := J
  refine ⟨S, ⟨?_, ?_, ?_, ?_, ?_, ?_, ?_, ?_, ?_, ?_, ?_, ?_⟩, rf_Ka (by decide) (by decide) (by decide) K⟩
  · intro r ht i
    by_cases h : r.1 = 55
    · have e1 : r = (55, 0, 1299) := by revert r; decide
      subst e1
      show 0 ≤ (z_ai (z_sai M (n + 55) j v) (n + 55) i).toInt ∧ (z_ai (z_sai M (n + 55) j v) (n + 55) i).toInt ≤ 1299
      rw [rf_ea]
      split
      · exact ⟨h0, h1⟩
      · exact c1 (55, 0, 1299) ht i
    · show r.2.1 ≤ (z_ai (z_sai M (n + 55) j v) (n + r.1) i).toInt ∧ (z_ai (z_sai M (n + 55) j v) (n + r.1) i).toInt ≤ r.2.2
      rw [rf_na h]; exact c1 r ht i
  · exact c2
  · exact c3.congr (fun y hy => rf_na (by revert hy; revert y; decide))
  · exact c4.congr (fun y hy => rf_na (by revert hy; revert y; decide)) (fun _ _ => rfl)
  · exact c5.congr (fun y hy => rf_na (by revert hy; revert y; decide))
  · exact c6.congr (fun y hy => rf_na (by revert hy; revert y; decide)) (fun _ _ => rfl)
  · exact c7.congr (fun y hy => rf_na (by revert hy; revert y; decide))
  · exact c8.congr (fun y hy => rf_na (by revert hy; revert y; decide)) (fun _ _ => rfl)
  · exact c9
  · exact c10.congr (fun y hy => rf_na (by revert hy; revert y; decide))
  · exact c11.congr (fun y hy => rf_na (by revert hy; revert y; decide)) (fun _ _ => rfl)
  · exact c12.congr (fun y hy => rf_na (by revert hy; revert y; decide)) (fun _ _ => rfl)
theorem w_58 {j : Nat} {v : Int32} (J : rf_J n t s q z M0 M) (e : M1 = z_sai M (n + 58) j v) (h0 : 0 ≤ v.toInt) (h1 : v.toInt ≤ 3599) : rf_J n t s q z M0 M1 := by
  subst e
  obtain ⟨S, ⟨c1, c2, c3, c4, c5, c6, c7, c8, c9, c10, c11, c12⟩, K⟩ := J
  refine ⟨S, ⟨?_, ?_, ?_, ?_, ?_, ?_, ?_, ?_, ?_, ?_, ?_, ?_⟩, rf_Ka (by decide) (by decide) (by decide) K⟩
  · intro r ht i
    by_cases h : r.1 = 58
    · have e1 : r = (58, 0, 3599) := by revert r; decide
      subst e1
      show 0 ≤ (z_ai (z_sai M (n + 58) j v) (n + 58) i).toInt ∧ (z_ai (z_sai M (n + 58) j v) (n + 58) i).toInt ≤ 3599
      rw [rf_ea]
      split
      · exact ⟨h0, h1⟩
      · exact c1 (58, 0, 3599) ht i
    · show r.2.1 ≤ (z_ai (z_sai M (n + 58) j v) (n + r.1) i).toInt ∧ (z_ai (z_sai M (n + 58) j v) (n + r.1) i).toInt ≤ r.2.2
      rw [rf_na h]; exact c1 r ht i
  · exact c2
  · exact c3.congr (fun y hy => rf_na (by revert hy; revert y; decide))
  · exact c4.congr (fun y hy => rf_na (by revert hy; revert y; decide)) (fun _ _ => rfl)
  · exact c5.congr (fun y hy => rf_na (by revert hy; revert y; decide))
  · exact c6.congr (fun y hy => rf_na (by revert hy; revert y; decide)) (fun _ _ => rfl)
  · exact c7.congr (fun y hy => rf_na (by revert hy; revert y; decide))
  · exact c8.congr (fun y hy => rf_na (by revert hy; revert y; decide)) (fun _ _ => rfl)
  · exact c9
  · exact c10.congr (fun y hy => rf_na (by revert hy; revert y; decide))
  · exact c11.congr (fun y hy => rf_na (by revert hy; revert y; decide)) (fun _ _ => rfl)
  · exact c12.congr (fun y hy => rf_na (by revert hy; revert y; decide)) (fun _ _ => rfl)
theorem w_59 {j : Nat} {v : Int32} (J : rf_J n t s q z M0 M) (e : M1 = z_sai M (n + 59) j v) (h0 : 0 ≤ v.toInt) (h1 : v.toInt ≤ 1) : rf_J n t s q z M0 M1 := by
  subst e
  obtain ⟨S, ⟨c1, c2, c3, c4, c5, c6, c7, c8, c9, c10, c11, c12⟩, K⟩ := J
  refine ⟨S, ⟨?_, ?_, ?_, ?_, ?_, ?_, ?_, ?_, ?_, ?_, ?_, ?_⟩, rf_Ka (by decide) (by decide) (by decide) K⟩
  · intro r ht i
    by_cases h : r.1 = 59
    · have e1 : r = (59, 0, 1) := by revert r; decide
      subst e1
      show 0 ≤ (z_ai (z_sai M (n + 59) j v) (n + 59) i).toInt ∧ (z_ai (z_sai M (n + 59) j v) (n + 59) i).toInt ≤ 1
      rw [rf_ea]
      split
      · exact ⟨h0, h1⟩
      · exact c1 (59, 0, 1) ht i
    · show r.2.1 ≤ (z_ai (z_sai M (n + 59) j v) (n + r.1) i).toInt ∧ (z_ai (z_sai M (n + 59) j v) (n + r.1) i).toInt ≤ r.2.2
      rw [rf_na h]; exact c1 r ht i
  · exact c2
  · exact c3.congr (fun y hy => rf_na (by revert hy; revert y; decide))
  · exact c4.congr (fun y hy => rf_na (by revert hy; revert y; decide)) (fun _ _ => rfl)
  · exact c5.congr (fun y hy => rf_na (by revert hy; revert y; decide))
  · exact c6.congr (fun y hy => rf_na (by revert hy; revert y; decide)) (fun _ _ => rfl)
  · exact c7.congr (fun y hy => rf_na (by revert hy; revert y; decide))
  · exact c8.congr (fun y hy => rf_na (by revert hy; revert y; decide)) (fun _ _ => rfl)
  · exact c9
  · exact c10.congr (fun y hy => rf_na (by revert hy; revert y; decide))
  · exact c11.congr (fun y hy => rf_na (by revert hy; revert y; decide)) (fun _ _ => rfl)
  · exact c12.congr (fun y hy => rf_na (by revert hy; revert y; decide)) (fun _ _ => rfl)
theorem w_71 {j : Nat} {v : Int32} (J : rf_J n t s q z M0 M) (e : M1 = z_sai M (n + 71) j v) (h0 : 0 ≤ v.toInt) (h1 : v.toInt ≤ 1) : rf_J n t s q z M0 M1 := by
  subst e
  obtain ⟨S, ⟨c1, c2, c3, c4, c5, c6, c7, c8, c9, c10, c11, c12⟩, K⟩ := J
  refine ⟨S, ⟨?_, ?_, ?_, ?_, ?_, ?_, ?_, ?_, ?_, ?_, ?_, ?_⟩, rf_Ka (by decide) (by decide) (by decide) K⟩
  · intro r ht i
    by_cases h : r.1 = 71
    · have e1 : r = (71, 0, 1) := by revert r; decide
      subst e1
      show 0 ≤ (z_ai (z_sai M (n + 71) j v) (n + 71) i).toInt ∧ (z_ai (z_sai M (n + 71) j v) (n + 71) i).toInt ≤ 1
      rw [rf_ea]
      split
      · exact ⟨h0, h1⟩
      · exact c1 (71, 0, 1) ht i
    · show r.2.1 ≤ (z_ai (z_sai M (n + 71) j v) (n + r.1) i).toInt ∧ (z_ai (z_sai M (n + 71) j v) (n + r.1) i).toInt ≤ r.2.2
      rw [rf_na h]; exact c1 r ht i
  · exact c2
  · exact c3.congr (fun y hy => rf_na (by revert hy; revert y; decide))
  · exact c4.congr (fun y hy => rf_na (by revert hy; revert y; decide)) (fun _ _ => rfl)
  · exact c5.congr (fun y hy => rf_na (by revert hy; revert y; decide))
  · exact c6.congr (fun y hy => rf_na (by revert hy; revert y; decide)) (fun _ _ => rfl)
  · exact c7.congr (fun y hy => rf_na (by revert hy; revert y; decide))
  · exact c8.congr (fun y hy => rf_na (by revert hy; revert y; decide)) (fun _ _ => rfl)
  · exact c9
  · exact c10.congr (fun y hy => rf_na (by revert hy; revert y; decide))
  · exact c11.congr (fun y hy => rf_na (by revert hy; revert y; decide)) (fun _ _ => rfl)
  · exact c12.congr (fun y hy => rf_na (by revert hy; revert y; decide)) (fun _ _ => rfl)
theorem w_73 {j : Nat} {v : Int32} (J : rf_J n t s q z M0 M) (e : M1 = z_sai M (n + 73) j v) (h0 : 0 ≤ v.toInt) (h1 : v.toInt ≤ 3) : rf_J n t s q z M0 M1 := by
  subst e
  obtain ⟨S, ⟨c1, c2, c3, c4, c5, c6, c7, c8, c9, c10, c11, c12⟩, K⟩ := J
  refine ⟨S, ⟨?_, ?_, ?_, ?_, ?_, ?_, ?_, ?_, ?_, ?_, ?_, ?_⟩, rf_Ka (by decide) (by decide) (by decide) K⟩
  · intro r ht i
    by_cases h : r.1 = 73
    · have e1 : r = (73, 0, 3) := by revert r; decide
      subst e1
      show 0 ≤ (z_ai (z_sai M (n + 73) j v) (n + 73) i).toInt ∧ (z_ai (z_sai M (n + 73) j v) (n + 73) i).toInt ≤ 3
      rw [rf_ea]
      split
      · exact ⟨h0, h1⟩
      · exact c1 (73, 0, 3) ht i
    · show r.2.1 ≤ (z_ai (z_sai M (n + 73) j v) (n + r.1) i).toInt ∧ (z_ai (z_sai M (n + 73) j v) (n + r.1) i).toInt ≤ r.2.2
      rw [rf_na h]; exact c1 r ht i
  · exact c2
  · exact c3.congr (fun y hy => rf_na (by revert hy; revert y; decide))
  · exact c4.congr (fun y hy => rf_na (by revert hy; revert y; decide)) (fun _ _ => rfl)
  · exact c5.congr (fun y hy => rf_na (by revert hy; revert y; decide))
  · exact c6.congr (fun y hy => rf_na (by revert hy; revert y; decide)) (fun _ _ => rfl)
  · exact c7.congr (fun y hy => rf_na (by revert hy; revert y; decide))
  · exact c8.congr (fun y hy => rf_na (by revert hy; revert y; decide)) (fun _ _ => rfl)
  · exact c9
  · exact c10.congr (fun y hy => rf_na (by revert hy; revert y; decide))
  · exact c11.congr (fun y hy => rf_na (by revert hy; revert y; decide)) (fun _ _ => rfl)
  · exact c12.congr (fun y hy => rf_na (by revert hy; revert y; decide)) (fun _ _ => rfl)
theorem w_83 {j : Nat} {v : Int32} (J : rf_J n t s q z M0 M) (e : M1 = z_sai M (n + 83) j v) (h0 : 0 ≤ v.toInt) (h1 : v.toInt ≤ 400) : rf_J n t s q z M0 M1 := by
  subst e
  obtain ⟨S, ⟨c1, c2, c3, c4, c5, c6, c7, c8, c9, c10, c11, c12⟩, K⟩ := J
  refine ⟨S, ⟨?_, ?_, ?_, ?_, ?_, ?_, ?_, ?_, ?_, ?_, ?_, ?_⟩, rf_Ka (by decide) (by decide) (by decide) K⟩
  · intro r ht i
    by_cases h : r.1 = 83
    · have e1 : r = (83, 0, 400) := by revert r; decide
      subst e1
      show 0 ≤ (z_ai (z_sai M (n + 83) j v) (n + 83) i).toInt ∧ (z_ai (z_sai M (n + 83) j v) (n + 83) i).toInt ≤ 400
      rw [rf_ea]
      split
      · exact ⟨h0, h1⟩
      · exact c1 (83, 0, 400) ht i
    · show r.2.1 ≤ (z_ai (z_sai M (n + 83) j v) (n + r.1) i).toInt ∧ (z_ai (z_sai M (n + 83) j v) (n + r.1) i).toInt ≤ r.2.2
      rw [rf_na h]; exact c1 r ht i
  · exact c2
  · exact c3.congr (fun y hy => rf_na (by revert hy; revert y; decide))
  · exact c4.congr (fun y hy => rf_na (by revert hy; revert y; decide)) (fun _ _ => rfl)
  · exact c5.congr (fun y hy => rf_na (by revert hy; revert y; decide))
  · exact c6.congr (fun y hy => rf_na (by revert hy; revert y; decide)) (fun _ _ => rfl)
  · exact c7.congr (fun y hy => rf_na (by revert hy; revert y; decide))
  · exact c8.congr (fun y hy => rf_na (by revert hy; revert y; decide)) (fun _ _ => rfl)
  · exact c9
  · exact c10.congr (fun y hy => rf_na (by revert hy; revert y; decide))
  · exact c11.congr (fun y hy => rf_na (by revert hy; revert y; decide)) (fun _ _ => rfl)
  · exact c12.congr (fun y hy => rf_na (by revert hy; revert y; decide)) (fun _ _ => rfl)
theorem w_89 {j : Nat} {v : Int32} (J : rf_J n t s q z M0 M) (e : M1 = z_sai M (n + 89) j v) (h0 : 0 ≤ v.toInt) (h1 : v.toInt ≤ 2000) : rf_J n t s q z M0 M1 := by
  subst e
  obtain ⟨S, ⟨c1, c2, c3, c4, c5, c6, c7, c8, c9, c10, c11, c12⟩, K⟩ := J
  refine ⟨S, ⟨?_, ?_, ?_, ?_, ?_, ?_, ?_, ?_, ?_, ?_, ?_, ?_⟩, rf_Ka (by decide) (by decide) (by decide) K⟩
  · intro r ht i
    by_cases h : r.1 = 89
    · have e1 : r = (89, 0, 2000) := by revert r; decide
      subst e1
      show 0 ≤ (z_ai (z_sai M (n + 89) j v) (n + 89) i).toInt ∧ (z_ai (z_sai M (n + 89) j v) (n + 89) i).toInt ≤ 2000
      rw [rf_ea]
      split
      · exact ⟨h0, h1⟩
      · exact c1 (89, 0, 2000) ht i
    · show r.2.1 ≤ (z_ai (z_sai M (n + 89) j v) (n + r.1) i).toInt ∧ (z_ai (z_sai M (n + 89) j v) (n + r.1) i).toInt ≤ r.2.2
      rw [rf_na h]; exact c1 r ht i
  · exact c2
  · exact c3.congr (fun y hy => rf_na (by revert hy; revert y; decide))
  · exact c4.congr (fun y hy => rf_na (by revert hy; revert y; decide)) (fun _ _ => rfl)
  · exact c5.congr (fun y hy => rf_na (by revert hy; revert y; decide))
  · exact c6.congr (fun y hy => rf_na (by revert hy; revert y; decide)) (fun _ _ => rfl)
  · exact c7.congr (fun y hy => rf_na (by revert hy; revert y; decide))
  · exact c8.congr (fun y hy => rf_na (by revert hy; revert y; decide)) (fun _ _ => rfl)
  · exact c9
  · exact c10.congr (fun y hy => rf_na (by revert hy; revert y; decide))
  · exact c11.congr (fun y hy => rf_na (by revert hy; revert y; decide)) (fun _ _ => rfl)
  · exact c12.congr (fun y hy => rf_na (by revert hy; revert y; decide)) (fun _ _ => rfl)
theorem w_98 {j : Nat} {v : Int32} (J : rf_J n t s q z M0 M) (e : M1 = z_sai M (n + 98) j v) (h0 : -6400 ≤ v.toInt) (h1 : v.toInt ≤ 6400) : rf_J n t s q z M0 M1 := by
  subst e
  obtain ⟨S, ⟨c1, c2, c3, c4, c5, c6, c7, c8, c9, c10, c11, c12⟩, K⟩ := J
  refine ⟨S, ⟨?_, ?_, ?_, ?_, ?_, ?_, ?_, ?_, ?_, ?_, ?_, ?_⟩, rf_Ka (by decide) (by decide) (by decide) K⟩
  · intro r ht i
    by_cases h : r.1 = 98
    · have e1 : r = (98, -6400, 6400) := by revert r; decide
      subst e1
      show -6400 ≤ (z_ai (z_sai M (n + 98) j v) (n + 98) i).toInt ∧ (z_ai (z_sai M (n + 98) j v) (n + 98) i).toInt ≤ 6400
      rw [rf_ea]
      split
      · exact ⟨h0, h1⟩
      · exact c1 (98, -6400, 6400) ht i
    · show r.2.1 ≤ (z_ai (z_sai M (n + 98) j v) (n + r.1) i).toInt ∧ (z_ai (z_sai M (n + 98) j v) (n + r.1) i).toInt ≤ r.2.2
      rw [rf_na h]; exact c1 r ht i
  · exact c2
  · exact c3.congr (fun y hy => rf_na (by revert hy; revert y; decide))
  · exact c4.congr (fun y hy => rf_na (by revert hy; revert y; decide)) (fun _ _ => rfl)
  · exact c5.congr (fun y hy => rf_na (by revert hy; revert y; decide))
  · exact c6.congr (fun y hy => rf_na (by revert hy; revert y; decide)) (fun _ _ => rfl)
  · exact c7.congr (fun y hy => rf_na (by revert hy; revert y; decide))
  · exact c8.congr (fun y hy => rf_na (by revert hy; revert y; decide)) (fun _ _ => rfl)
  · exact c9
  · exact c10.congr (fun y hy => rf_na (by revert hy; revert y; decide))
  · exact c11.congr (fun y hy => rf_na (by revert hy; revert y; decide)) (fun _ _ => rfl)
  · exact c12.congr (fun y hy => rf_na (by revert hy; revert y; decide)) (fun _ _ => rfl)
theorem w_1575 {v : Int32} (J : rf_J n t s q z M0 M) (e : M1 = z_sfi M 1575 (n + 40) v) (h0 : -1 ≤ v.toInt) (h1 : v.toInt ≤ 1) : rf_J n t s q z M0 M1 := by
  subst e
  obtain ⟨S, ⟨c1, c2, c3, c4, c5, c6, c7, c8, c9, c10, c11, c12⟩, K⟩ := J
  refine ⟨S, ⟨?_, ?_, ?_, ?_, ?_, ?_, ?_, ?_, ?_, ?_, ?_, ?_⟩, rf_Kf (by decide) (by decide) K⟩
  · exact c1
  · intro r ht
    by_cases h : r.1 = 1575
    · have e1 : r = (1575, -1, 1) := by revert r; decide
      subst e1
      show -1 ≤ (z_fi (z_sfi M 1575 (n + 40) v) 1575 (n + 40)).toInt ∧ (z_fi (z_sfi M 1575 (n + 40) v) 1575 (n + 40)).toInt ≤ 1
      rw [rf_ef]; exact ⟨h0, h1⟩
    · show r.2.1 ≤ (z_fi (z_sfi M 1575 (n + 40) v) r.1 (n + 40)).toInt ∧ (z_fi (z_sfi M 1575 (n + 40) v) r.1 (n + 40)).toInt ≤ r.2.2
      rw [rf_nf h]; exact c2 r ht
  · exact c3
  · exact c4.congr (fun _ _ => rfl) (fun y hy => rf_nf (by revert hy; revert y; decide))
  · exact c5
  · exact c6.congr (fun _ _ => rfl) (fun y hy => rf_nf (by revert hy; revert y; decide))
  · exact c7
  · exact c8.congr (fun _ _ => rfl) (fun y hy => rf_nf (by revert hy; revert y; decide))
  · exact c9.congr (fun y hy => rf_nf (by revert hy; revert y; decide))
  · exact c10
  · exact c11.congr (fun _ _ => rfl) (fun y hy => rf_nf (by revert hy; revert y; decide))
  · exact c12.congr (fun _ _ => rfl) (fun y hy => rf_nf (by revert hy; revert y; decide))
theorem w_1578 {v : Int32} (J : rf_J n t s q z M0 M) (e : M1 = z_sfi M 1578 (n + 40) v) (h0 : -1 ≤ v.toInt) (h1 : v.toInt ≤ 9) : rf_J n t s q z M0 M1 := by
  subst e
  obtain ⟨S, ⟨c1, c2, c3, c4, c5, c6, c7, c8, c9, c10, c11, c12⟩, K⟩ := J
  refine ⟨S, ⟨?_, ?_, ?_, ?_, ?_, ?_, ?_, ?_, ?_, ?_, ?_, ?_⟩, rf_Kf (by decide) (by decide) K⟩
  · exact c1
  · intro r ht
    by_cases h : r.1 = 1578
    · have e1 : r = (1578, -1, 9) := by revert r; decide
      subst e1
      show -1 ≤ (z_fi (z_sfi M 1578 (n + 40) v) 1578 (n + 40)).toInt ∧ (z_fi (z_sfi M 1578 (n + 40) v) 1578 (n + 40)).toInt ≤ 9
      rw [rf_ef]; exact ⟨h0, h1⟩
    · show r.2.1 ≤ (z_fi (z_sfi M 1578 (n + 40) v) r.1 (n + 40)).toInt ∧ (z_fi (z_sfi M 1578 (n + 40) v) r.1 (n + 40)).toInt ≤ r.2.2
      rw [rf_nf h]; exact c2 r ht
  · exact c3
  · exact c4.congr (fun _ _ => rfl) (fun y hy => rf_nf (by revert hy; revert y; decide))
  · exact c5
  · exact c6.congr (fun _ _ => rfl) (fun y hy => rf_nf (by revert hy; revert y; decide))
  · exact c7
  · exact c8.congr (fun _ _ => rfl) (fun y hy => rf_nf (by revert hy; revert y; decide))
  · exact c9.congr (fun y hy => rf_nf (by revert hy; revert y; decide))
  · exact c10
  · exact c11.congr (fun _ _ => rfl) (fun y hy => rf_nf (by revert hy; revert y; decide))
  · exact c12.congr (fun _ _ => rfl) (fun y hy => rf_nf (by revert hy; revert y; decide))
theorem w_1585 {v : Int32} (J : rf_J n t s q z M0 M) (e : M1 = z_sfi M 1585 (n + 40) v) (h0 : 0 ≤ v.toInt) (h1 : v.toInt ≤ 2147483647) : rf_J n t s q z M0 M1 := by
  subst e
  obtain ⟨S, ⟨c1, c2, c3, c4, c5, c6, c7, c8, c9, c10, c11, c12⟩, K⟩ := J
  refine ⟨S, ⟨?_, ?_, ?_, ?_, ?_, ?_, ?_, ?_, ?_, ?_, ?_, ?_⟩, rf_Kf (by decide) (by decide) K⟩
  · exact c1
  · intro r ht
    by_cases h : r.1 = 1585
    · have e1 : r = (1585, 0, 2147483647) := by revert r; decide
      subst e1
      show 0 ≤ (z_fi (z_sfi M 1585 (n + 40) v) 1585 (n + 40)).toInt ∧ (z_fi (z_sfi M 1585 (n + 40) v) 1585 (n + 40)).toInt ≤ 2147483647
      rw [rf_ef]; exact ⟨h0, h1⟩
    · show r.2.1 ≤ (z_fi (z_sfi M 1585 (n + 40) v) r.1 (n + 40)).toInt ∧ (z_fi (z_sfi M 1585 (n + 40) v) r.1 (n + 40)).toInt ≤ r.2.2
      rw [rf_nf h]; exact c2 r ht
  · exact c3
  · exact c4.congr (fun _ _ => rfl) (fun y hy => rf_nf (by revert hy; revert y; decide))
  · exact c5
  · exact c6.congr (fun _ _ => rfl) (fun y hy => rf_nf (by revert hy; revert y; decide))
  · exact c7
  · exact c8.congr (fun _ _ => rfl) (fun y hy => rf_nf (by revert hy; revert y; decide))
  · exact c9.congr (fun y hy => rf_nf (by revert hy; revert y; decide))
  · exact c10
  · exact c11.congr (fun _ _ => rfl) (fun y hy => rf_nf (by revert hy; revert y; decide))
  · exact c12.congr (fun _ _ => rfl) (fun y hy => rf_nf (by revert hy; revert y; decide))
theorem w_1590 {v : Int32} (J : rf_J n t s q z M0 M) (e : M1 = z_sfi M 1590 (n + 40) v) (h0 : 0 ≤ v.toInt) (h1 : v.toInt ≤ 3) : rf_J n t s q z M0 M1 := by
  subst e
  obtain ⟨S, ⟨c1, c2, c3, c4, c5, c6, c7, c8, c9, c10, c11, c12⟩, K⟩ := J
  refine ⟨S, ⟨?_, ?_, ?_, ?_, ?_, ?_, ?_, ?_, ?_, ?_, ?_, ?_⟩, rf_Kf (by decide) (by decide) K⟩
  · exact c1
  · intro r ht
    by_cases h : r.1 = 1590
    · have e1 : r = (1590, 0, 3) := by revert r; decide
      subst e1
      show 0 ≤ (z_fi (z_sfi M 1590 (n + 40) v) 1590 (n + 40)).toInt ∧ (z_fi (z_sfi M 1590 (n + 40) v) 1590 (n + 40)).toInt ≤ 3
      rw [rf_ef]; exact ⟨h0, h1⟩
    · show r.2.1 ≤ (z_fi (z_sfi M 1590 (n + 40) v) r.1 (n + 40)).toInt ∧ (z_fi (z_sfi M 1590 (n + 40) v) r.1 (n + 40)).toInt ≤ r.2.2
      rw [rf_nf h]; exact c2 r ht
  · exact c3
  · exact c4.congr (fun _ _ => rfl) (fun y hy => rf_nf (by revert hy; revert y; decide))
  · exact c5
  · exact c6.congr (fun _ _ => rfl) (fun y hy => rf_nf (by revert hy; revert y; decide))
  · exact c7
  · exact c8.congr (fun _ _ => rfl) (fun y hy => rf_nf (by revert hy; revert y; decide))
  · exact c9.congr (fun y hy => rf_nf (by revert hy; revert y; decide))
  · exact c10
  · exact c11.congr (fun _ _ => rfl) (fun y hy => rf_nf (by revert hy; revert y; decide))
  · exact c12.congr (fun _ _ => rfl) (fun y hy => rf_nf (by revert hy; revert y; decide))
end RFX
