/-! ===== THE LIKENESS: a byte of a stream ===== -/
section JBY
variable {n : Nat} {M M0 M1 M2 : z_Mem} {r r1 a b c : q_R} {TL CL : List Nat} {t s q z : Nat} {d : Int} {f g : Nat → Int32}
/-- one byte's cell, and the count of the bytes that are lost -/
theorem JJ.byte (J : JJ n M r TL CL) {s j x o : Nat} {v : Int32} (hs : s < 4) (hj : j < 200) (hx : (x = 69 ∧ o = 13) ∨ (x = 70 ∧ o = 14)) (S1 : y_S n M1) (hsz : z_sz M1 = z_sz M) (har : z_ar M1 = z_ar M) (hfr : z_fr M1 = z_fr M) (hfi : ∀ k y, ¬ ((k = 1155 ∨ k = 1154) ∧ y = n + (12 + 4 * s)) → z_fi M1 k y = z_fi M k y) (hai : ∀ y i, z_ai M1 y i = if y = n + (o + 4 * s) then (if i = j then v else z_ai M y i) else z_ai M y i) (hc : z_fi M1 1155 (n + (12 + 4 * s)) = nI (rf_c (j_lost (ua r x (200 * s + j) v) s) 200)) : JJ n M1 (ua r x (200 * s + j) v) TL CL := by
  have hx2 : x = 69 ∨ x = 70 := by omega
  obtain ⟨S, js, ja, X, P, Q, T, C⟩ := J
  have hn : ∀ y, y ≠ 69 → y ≠ 70 → (ua r x (200 * s + j) v).2 y = r.2 y := fun y h1 h2 => ua_n (by omega)
  have fi6 : ∀ k y, k ≠ 1155 → k ≠ 1154 → z_fi M1 k y = z_fi M k y := fun k y h1 h2 => hfi k y (fun h => by rcases h.1 with h | h <;> omega)
  have ai6 : ∀ y i, y ≠ n + (o + 4 * s) → z_ai M1 y i = z_ai M y i := fun y i h => by rw [hai, if_neg h]
  have H : hF n M M1 := ⟨by rw [hsz]; exact Nat.le_refl _, fun y h0 h1 => ⟨fun k => hfi k y (fun h => by omega), fun k => by rw [hfr], fun i => ai6 y i (by omega)⟩⟩
  have jn : ∀ t, t ∈ jT → t.1 ≠ 1155 ∧ t.1 ≠ 1154 ∧ t.2.2.1 ≠ 69 ∧ t.2.2.1 ≠ 70 := by decide
  refine ⟨S1, js.congr (fun t ht => fi6 _ _ (jn t ht).1 (jn t ht).2.1) (fun t ht => ?_), fun t ht i hi => ?_, ?_, P.congr H (by rw [har]) rfl (fun t ht => hn _ (by revert ht; revert t; decide) (by revert ht; revert t; decide)), fun p hp => (Q p hp).congr H.m (by rw [har]) (by rw [har]) (fi6 _ _ (by decide) (by decide)) rfl (by rw [hn 51 (by decide) (by decide)]) (fun _ _ => by rw [hn 50 (by decide) (by decide)]) (Nat.le_refl _) (fun y _ hy _ => by rw [hn y (by revert hy; revert y; decide) (by revert hy; revert y; decide)]), T.congr H.m (by rw [har]) (by rw [har]) (fi6 _ _ (by decide) (by decide)) rfl (Nat.le_refl _) (Nat.le_refl _) (fun y _ hy _ => by rw [hn y (by revert hy; revert y; decide) (by revert hy; revert y; decide)]) (fun y _ hy _ => by rw [hn y (by revert hy; revert y; decide) (by revert hy; revert y; decide)]), C.congr H.m (by rw [har]) (fi6 _ _ (by decide) (by decide)) (Nat.le_refl _) (by rw [hn 61 (by decide) (by decide)]; exact C.2.2.2.1) (Nat.le_refl _) (fun _ _ _ _ => by rw [hn 61 (by decide) (by decide)]) (fun y _ hy _ => by rw [hn y (by revert hy; revert y; decide) (by revert hy; revert y; decide)])⟩
  · unfold j_loc
    by_cases c : t.2.2.1 = 0
    · rw [if_pos c, if_pos c]; rfl
    · rw [if_neg c, if_neg c, hn _ (jn t ht).2.2.1 (jn t ht).2.2.2]
  · have hJ := ja t ht i hi
    have hR : ∀ t, t ∈ jR → (∃ s', s' < 4 ∧ t = (13 + 4 * s', 200, 69, 200 * s')) ∨ (∃ s', s' < 4 ∧ t = (14 + 4 * s', 200, 70, 200 * s')) ∨ (t.1 % 4 ≠ 1 ∧ t.1 % 4 ≠ 2 ∧ t.2.2.1 ≠ 69 ∧ t.2.2.1 ≠ 70) ∨ (28 < t.1 ∧ t.2.2.1 ≠ 69 ∧ t.2.2.1 ≠ 70) := by
      intro t ht
      have this : ∀ t, t ∈ jR → t = (13, 200, 69, 0) ∨ t = (17, 200, 69, 200) ∨ t = (21, 200, 69, 400) ∨ t = (25, 200, 69, 600) ∨ t = (14, 200, 70, 0) ∨ t = (18, 200, 70, 200) ∨ t = (22, 200, 70, 400) ∨ t = (26, 200, 70, 600) ∨ (t.1 % 4 ≠ 1 ∧ t.1 % 4 ≠ 2 ∧ t.2.2.1 ≠ 69 ∧ t.2.2.1 ≠ 70) ∨ (28 < t.1 ∧ t.2.2.1 ≠ 69 ∧ t.2.2.1 ≠ 70) := by
        decide
      rcases this t ht with h | h | h | h | h | h | h | h | h | h
      · exact Or.inl ⟨0, by omega, h⟩
      · exact Or.inl ⟨1, by omega, h⟩
      · exact Or.inl ⟨2, by omega, h⟩
      · exact Or.inl ⟨3, by omega, h⟩
      · exact Or.inr (Or.inl ⟨0, by omega, h⟩)
      · exact Or.inr (Or.inl ⟨1, by omega, h⟩)
      · exact Or.inr (Or.inl ⟨2, by omega, h⟩)
      · exact Or.inr (Or.inl ⟨3, by omega, h⟩)
      · exact Or.inr (Or.inr (Or.inl h))
      · exact Or.inr (Or.inr (Or.inr h))
    rcases hR t ht with ⟨s', hs', rfl⟩ | ⟨s', hs', rfl⟩ | h | h
    · have hi : i < 200 := hi
      show z_ai M1 (n + (13 + 4 * s')) i = (ua r x (200 * s + j) v).2 69 (200 * s' + i)
      have hJ : z_ai M (n + (13 + 4 * s')) i = r.2 69 (200 * s' + i) := hJ
      rw [hai, ua2]
      rcases hx with ⟨hx, ho⟩ | ⟨hx, ho⟩
      · rw [if_pos hx.symm]
        by_cases e : s' = s
        · subst e
          rw [if_pos (by omega)]
          by_cases e2 : i = j
          · rw [if_pos e2, if_pos (by omega)]
          · rw [if_neg e2, if_neg (by omega)]; exact hJ
        · rw [if_neg (by omega), if_neg (by omega)]; exact hJ
      · rw [if_neg (by omega), if_neg (by omega)]; exact hJ
    · have hi : i < 200 := hi
      show z_ai M1 (n + (14 + 4 * s')) i = (ua r x (200 * s + j) v).2 70 (200 * s' + i)
      have hJ : z_ai M (n + (14 + 4 * s')) i = r.2 70 (200 * s' + i) := hJ
      rw [hai, ua2]
      rcases hx with ⟨hx, ho⟩ | ⟨hx, ho⟩
      · rw [if_neg (by omega), if_neg (by omega)]; exact hJ
      · rw [if_pos hx.symm]
        by_cases e : s' = s
        · subst e
          rw [if_pos (by omega)]
          by_cases e2 : i = j
          · rw [if_pos e2, if_pos (by omega)]
          · rw [if_neg e2, if_neg (by omega)]; exact hJ
        · rw [if_neg (by omega), if_neg (by omega)]; exact hJ
    · rw [ai6 _ _ (by omega), hn _ h.2.2.1 h.2.2.2]; exact hJ
    · rw [ai6 _ _ (by omega), hn _ h.2.1 h.2.2]; exact hJ
  · obtain ⟨y1, y2, y3, y4, y5, y6, y7, y8, y9, y10⟩ := X
    have l2 : ∀ p, j_fl (ua r x (200 * s + j) v) p = j_fl r p := fun p => by unfold j_fl; rw [hn 71 (by decide) (by decide), hn 76 (by decide) (by decide)]
    refine ⟨fun p hp => ?_, ?_, ?_, fun s' hs' => ?_, fun s' hs' => ?_, fun p hp => ?_, ?_, fun p hp => ?_, fun p hp h => ?_, ?_⟩
    · rw [fi6 _ _ (by decide) (by decide), hn 45 (by decide) (by decide)]; exact y1 p hp
    · rw [fi6 _ _ (by decide) (by decide)]; exact y2
    · rw [fi6 _ _ (by decide) (by decide)]; exact y3
    · by_cases e : s' = s
      · subst e; exact hc
      · have e2 : rf_c (j_lost (ua r x (200 * s + j) v) s') 200 = rf_c (j_lost r s') 200 := by
          refine rf_c_eq 200 (fun i hi => ?_)
          unfold j_lost
          rw [hn 67 (by decide) (by decide), ua2, if_neg (show ¬ 200 * s' + i = 200 * s + j by omega), ite_self, ua2, if_neg (show ¬ 200 * s' + i = 200 * s + j by omega), ite_self]
        rw [hfi _ _ (by omega), e2]; exact y4 s' hs'
    · rw [fi6 _ _ (by decide) (by decide), hn 64 (by decide) (by decide)]; exact y5 s' hs'
    · rw [fi6 _ _ (by decide) (by decide), l2]; exact y6 p hp
    · rw [fi6 _ _ (by decide) (by decide), hn 76 (by decide) (by decide)]; exact y7
    · rw [fi6 _ _ (by decide) (by decide), hn 99 (by decide) (by decide)]; exact y8 p hp
    · rw [hn 100 (by decide) (by decide)] at h
      rw [fi6 _ _ (by decide) (by decide), fi6 _ _ (by decide) (by decide), hn 103 (by decide) (by decide), hn 104 (by decide) (by decide)]; exact y9 p hp h
    · rw [fi6 _ _ (by decide) (by decide)]; exact y10
/-- whether a byte is lost: both say so -/
theorem j_isLost (J : JJ n M r TL CL) {s j : Nat} (hs : s < 4) (hj : j < 200) : cF_X9_isLost (n + (12 + 4 * s)) (nI j) M = (if j_lost r s j = true then 1 else 0, M) := by
  have F := j_sfr J.1 hs
  have R := j_rows J hs hj
  have e1153 : z_fi M 1153 (n + (12 + 4 * s)) = r.2 67 s := by
    rcases jl4 hs with rfl | rfl | rfl | rfl
    · exact js_1153_12 J
    · exact js_1153_16 J
    · exact js_1153_20 J
    · exact js_1153_24 J
  rw [cE_X9_isLost, if_neg (jI_nlt0 (by omega)), e1153]
  unfold j_lost
  by_cases c1 : r.2 67 s ≤ nI j
  · rw [if_pos c1, if_neg]
    have := i_le c1 rfl (jI_t (by omega))
    rw [decide_eq_true_eq]; omega
  · have c1' := i_nle c1 rfl (jI_t (k := j) (by omega))
    rw [if_neg c1, if_neg (fun h => by have := i_le h (show (200 : Int32).toInt = 200 from rfl) (jI_t (k := j) (by omega)); omega), F.1]
    refine (q_ste (b := n + (13 + 4 * s)) rfl).trans ?_
    rw [jI_N (by omega), R.1]
    by_cases c2 : r.2 69 (200 * s + j) = 0
    · rw [if_pos c2, F.2.1]
      refine (q_ste (b := n + (14 + 4 * s)) rfl).trans ?_
      rw [R.2.1]
      by_cases c3 : r.2 70 (200 * s + j) = 0
      · rw [if_pos c3, if_pos (by rw [decide_eq_true_eq]; exact ⟨by omega, c2, c3⟩)]
      · rw [if_neg c3, if_neg (by rw [decide_eq_true_eq]; exact fun h => c3 h.2.2)]
    · rw [if_neg c2, if_neg (by rw [decide_eq_true_eq]; exact fun h => c2 h.2.1)]
end JBY
