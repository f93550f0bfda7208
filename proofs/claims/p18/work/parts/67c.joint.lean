/-! ===== LIKE on both sides: what few calls change ===== -/
/-- up, asks for cookies, ways, written bytes, now -/
def y_X (n : Nat) (M : z_Mem) : Prop := (z_fi M 388 (n + 2) = 0 ↔ ¬ z_ai M (n + 45) 0 = 0) ∧ (z_fi M 388 (n + 4) = 0 ↔ ¬ z_ai M (n + 45) 1 = 0) ∧ z_fi M 1027 (n + 28) = z_fi M 1563 (n + 40) ∧ z_fi M 256 (n + 33) = z_ai M (n + 86) 0 ∧ z_fi M 256 (n + 36) = z_ai M (n + 86) 1 ∧ (∀ j, j < 4 → z_fi M 1152 (n + (12 + 4 * j)) = z_ai M (n + 66) j) ∧ z_fi M 645 (n + 1) = z_fi M 1536 (n + 40)
section XX
variable {n w w2 : Nat} {M M1 M2 : z_Mem} {p p1 p2 v r r2 : Int32}
def y_g (w w2 n : Nat) (M M2 : z_Mem) : Prop := (∀ g, g ∈ y_KP → g ≠ w → ∀ a, a < n + 108 → z_fi M2 g a = z_fi M g a) ∧ (∀ x, x ∈ [45, 86, 66] → x ≠ w2 → z_ai M2 (n + x) = z_ai M (n + x)) ∧ (∀ g, g ∈ [1563, 1536] → g ≠ w2 → z_fi M2 g (n + 40) = z_fi M g (n + 40))
theorem y_TA {x : Nat} (T : y_RT w n M M1) (h1 : 41 ≤ x) (h2 : x < 107) : z_ai M1 (n + x) = z_ai M (n + x) := funext (fun j => T.2.1 x j h1 h2)
theorem y_gof (T : y_RT w n M M1) (K : rf_Kw w2 n M1 M2) : y_g w w2 n M M2 :=
  ⟨fun g hg hw a ha => (K.1.2.2.2.2.2.2.2.1 g a (by clear hw; revert hg; revert g; decide)).trans (T.2.2 g hg hw a ha), fun x hx hw => (K.2.1 x hx hw).trans (y_TA T (by clear hw; revert hx; revert x; decide) (by clear hw; revert hx; revert x; decide)), fun g hg hw => (K.2.2 g hg hw).trans (T.1 g (by clear hw; revert hg; revert g; decide))⟩
theorem y_KA {g a : Nat} (K : rf_Kw w2 n M1 M2) (hg : g < 1536) : z_fi M2 g a = z_fi M1 g a := K.1.2.2.2.2.2.2.2.1 g a hg
theorem y_Kal (K : rf_Kw w2 n M1 M2) : z_al M2 = z_al M1 := K.1.2.2.2.1
theorem y_Xg (G : y_g 0 0 n M M2) (X : y_X n M) : y_X n M2 := by
  obtain ⟨g1, g2, g3⟩ := G
  obtain ⟨x1, x2, x3, x4, x5, x6, x7⟩ := X
  refine ⟨?_, ?_, ?_, ?_, ?_, fun j hj => ?_, ?_⟩
  · rw [g1 388 (by decide) (by decide) _ (by omega), g2 45 (by decide) (by decide)]; exact x1
  · rw [g1 388 (by decide) (by decide) _ (by omega), g2 45 (by decide) (by decide)]; exact x2
  · rw [g1 1027 (by decide) (by decide) _ (by omega), g3 1563 (by decide) (by decide)]; exact x3
  · rw [g1 256 (by decide) (by decide) _ (by omega), g2 86 (by decide) (by decide)]; exact x4
  · rw [g1 256 (by decide) (by decide) _ (by omega), g2 86 (by decide) (by decide)]; exact x5
  · rw [g1 1152 (by decide) (by decide) _ (by omega), g2 66 (by decide) (by decide)]; exact x6 j hj
  · rw [g1 645 (by decide) (by decide) _ (by omega), g3 1536 (by decide) (by decide)]; exact x7
theorem y_X0 (X : y_X n M) (T : y_RT 0 n M M1) (K : rf_K3 n M1 M2) : y_X n M2 := y_Xg (y_gof T (rf_KwK K)) X
theorem y_i01 (h : rf_P p) : (p = 0 ∧ p.toNatClampNeg = 0) ∨ (¬ p = 0 ∧ p.toNatClampNeg = 1) := by
  have h' : 0 ≤ p.toInt ∧ p.toInt ≤ 1 := h
  have e := i_nat2 h'.1
  by_cases hp : p = 0
  · exact Or.inl ⟨hp, by rw [hp]; decide⟩
  · refine Or.inr ⟨hp, ?_⟩
    have : ¬ p.toInt = 0 := fun h0 => hp (Int32.toInt_inj.1 h0)
    omega
theorem j_SU (X : y_X n M) (C : y_oSU n p v M M1 r) (R : rf_oSU n p v M1 M2 r2) : y_X n M2 ∧ z_fi M2 1630 (n + 40) = r ∧ (r = 0 → z_al M2 (n + 107) 0 = (if r2 = 0 then 0 else 1)) := by
  rcases C with ⟨c1, c2, T⟩ | ⟨c1, c2, T, a, a0, a1, hv, ho⟩
  · rcases R with ⟨-, r3, K⟩ | ⟨h, -⟩
    · exact ⟨y_X0 X T K, by rw [r3, c2], fun h => absurd (c2.symm.trans h) (by decide)⟩
    · exact absurd h c1
  · rcases R with ⟨h, -⟩ | ⟨-, r3, K, hj, hr⟩
    · exact absurd c1 h
    · obtain ⟨g1, g2, g3⟩ := y_gof T K
      obtain ⟨x1, x2, x3, x4, x5, x6, x7⟩ := X
      have e45 := y_TA T (show 41 ≤ 45 by decide) (by decide)
      rw [e45] at hj hr
      have hv2 : ∀ x, z_fi M2 388 x = if x = a then v else z_fi M 388 x := fun x => by rw [y_KA K (by decide), hv]
      have hvv : v = 0 ↔ ¬ (if v = 0 then (1 : Int32) else 0) = 0 := by
        by_cases h : v = 0
        · rw [if_pos h]; exact ⟨fun _ => by decide, fun _ => h⟩
        · rw [if_neg h]; exact ⟨fun h2 => absurd h2 h, fun h2 => absurd rfl h2⟩
      have rest : z_fi M2 1027 (n + 28) = z_fi M2 1563 (n + 40) ∧ z_fi M2 256 (n + 33) = z_ai M2 (n + 86) 0 ∧ z_fi M2 256 (n + 36) = z_ai M2 (n + 86) 1 ∧ (∀ j, j < 4 → z_fi M2 1152 (n + (12 + 4 * j)) = z_ai M2 (n + 66) j) ∧ z_fi M2 645 (n + 1) = z_fi M2 1536 (n + 40) := by
        refine ⟨?_, ?_, ?_, fun j hj => ?_, ?_⟩
        · rw [g1 1027 (by decide) (by decide) _ (by omega), g3 1563 (by decide) (by decide)]; exact x3
        · rw [g1 256 (by decide) (by decide) _ (by omega), g2 86 (by decide) (by decide)]; exact x4
        · rw [g1 256 (by decide) (by decide) _ (by omega), g2 86 (by decide) (by decide)]; exact x5
        · rw [g1 1152 (by decide) (by decide) _ (by omega), g2 66 (by decide) (by decide)]; exact x6 j hj
        · rw [g1 645 (by decide) (by decide) _ (by omega), g3 1536 (by decide) (by decide)]; exact x7
      have old : ∀ i, (z_fi M 388 a = 0 ↔ ¬ z_ai M (n + 45) i = 0) → p.toNatClampNeg = i → z_al M2 (n + 107) 0 = (if r2 = 0 then 0 else 1) := fun i hi e => by
        rw [y_Kal K, ho, hr, e]
        by_cases h : z_fi M 388 a = 0
        · rw [if_pos h, if_neg (hi.1 h), if_pos rfl]
        · have h0 : z_ai M (n + 45) i = 0 := Classical.byContradiction (fun h1 => h (hi.2 h1))
          rw [if_neg h, if_pos h0, if_neg (by decide)]
      rcases y_i01 c1 with ⟨e, ei⟩ | ⟨e, ei⟩
      · have ea := a0 e
        subst ea
        rw [ei] at hj
        exact ⟨⟨by rw [hv2, if_pos rfl, hj, if_pos rfl]; exact hvv, by rw [hv2, if_neg (by omega), hj, if_neg (by decide)]; exact x2, rest⟩, by rw [r3, c2], fun _ => old 0 x1 ei⟩
      · have ea := a1 e
        subst ea
        rw [ei] at hj
        exact ⟨⟨by rw [hv2, if_neg (by omega), hj, if_neg (by decide)]; exact x1, by rw [hv2, if_pos rfl, hj, if_pos rfl]; exact hvv, rest⟩, by rw [r3, c2], fun _ => old 1 x2 ei⟩
theorem j_SC (X : y_X n M) (T : y_RT 1027 n M M1) (hv : z_fi M1 1027 (n + 28) = v) (hr : r = z_fi M 1027 (n + 28)) (R : rf_oSC n v M1 M2 r2) : y_X n M2 ∧ z_fi M2 1630 (n + 40) = 0 ∧ r2 = r := by
  obtain ⟨r3, K, hj, hr2⟩ := R
  obtain ⟨g1, g2, g3⟩ := y_gof T K
  obtain ⟨x1, x2, x3, x4, x5, x6, x7⟩ := X
  refine ⟨⟨?_, ?_, ?_, ?_, ?_, fun j hj => ?_, ?_⟩, r3, ?_⟩
  · rw [g1 388 (by decide) (by decide) _ (by omega), g2 45 (by decide) (by decide)]; exact x1
  · rw [g1 388 (by decide) (by decide) _ (by omega), g2 45 (by decide) (by decide)]; exact x2
  · rw [y_KA K (by decide), hv, hj]
  · rw [g1 256 (by decide) (by decide) _ (by omega), g2 86 (by decide) (by decide)]; exact x4
  · rw [g1 256 (by decide) (by decide) _ (by omega), g2 86 (by decide) (by decide)]; exact x5
  · rw [g1 1152 (by decide) (by decide) _ (by omega), g2 66 (by decide) (by decide)]; exact x6 j hj
  · rw [g1 645 (by decide) (by decide) _ (by omega), g3 1536 (by decide) (by decide)]; exact x7
  · rw [hr2, T.1 1563 (by decide), hr, x3]
theorem j_SW (X : y_X n M) (C : y_oSW n p v M M1 r) (R : rf_oSW n p v M1 M2 r2) : y_X n M2 ∧ z_fi M2 1630 (n + 40) = r ∧ (r = 0 → z_al M2 (n + 107) 0 = r2.toInt64) := by
  rcases C with ⟨c1, c2, T⟩ | ⟨c1, c2, c3, T⟩ | ⟨c1, cq, c2, T, a, a0, a1, hv, ho⟩
  · rcases R with ⟨-, r3, K⟩ | ⟨h, -⟩ | ⟨h, -⟩
    · exact ⟨y_X0 X T K, by rw [r3, c2], fun h => absurd (c2.symm.trans h) (by decide)⟩
    · exact absurd h c1
    · exact absurd h c1
  · rcases R with ⟨h, -⟩ | ⟨-, -, r3, K⟩ | ⟨-, h, -⟩
    · exact absurd c1 h
    · exact ⟨y_X0 X T K, by rw [r3, c3], fun h => absurd (c3.symm.trans h) (by decide)⟩
    · exact absurd h c2
  · rcases R with ⟨h, -⟩ | ⟨-, h, -⟩ | ⟨-, -, r3, K, hj, hr⟩
    · exact absurd c1 h
    · exact absurd cq h
    · obtain ⟨g1, g2, g3⟩ := y_gof T K
      obtain ⟨x1, x2, x3, x4, x5, x6, x7⟩ := X
      have e86 := y_TA T (show 41 ≤ 86 by decide) (by decide)
      rw [e86] at hj hr
      have hv2 : ∀ x, z_fi M2 256 x = if x = a then v else z_fi M 256 x := fun x => by rw [y_KA K (by decide), hv]
      have q1 : (z_fi M2 388 (n + 2) = 0 ↔ ¬ z_ai M2 (n + 45) 0 = 0) := by rw [g1 388 (by decide) (by decide) _ (by omega), g2 45 (by decide) (by decide)]; exact x1
      have q2 : (z_fi M2 388 (n + 4) = 0 ↔ ¬ z_ai M2 (n + 45) 1 = 0) := by rw [g1 388 (by decide) (by decide) _ (by omega), g2 45 (by decide) (by decide)]; exact x2
      have q3 : z_fi M2 1027 (n + 28) = z_fi M2 1563 (n + 40) := by rw [g1 1027 (by decide) (by decide) _ (by omega), g3 1563 (by decide) (by decide)]; exact x3
      have q6 : ∀ j, j < 4 → z_fi M2 1152 (n + (12 + 4 * j)) = z_ai M2 (n + 66) j := fun j hj => by rw [g1 1152 (by decide) (by decide) _ (by omega), g2 66 (by decide) (by decide)]; exact x6 j hj
      have q7 : z_fi M2 645 (n + 1) = z_fi M2 1536 (n + 40) := by rw [g1 645 (by decide) (by decide) _ (by omega), g3 1536 (by decide) (by decide)]; exact x7
      rcases y_i01 c1 with ⟨e, ei⟩ | ⟨e, ei⟩
      · have ea := a0 e
        subst ea
        rw [ei] at hj hr
        exact ⟨⟨q1, q2, q3, by rw [hv2, if_pos rfl, hj, if_pos rfl], by rw [hv2, if_neg (by omega), hj, if_neg (by decide)]; exact x5, q6, q7⟩, by rw [r3, c2], fun _ => by rw [y_Kal K, ho, hr, x4]⟩
      · have ea := a1 e
        subst ea
        rw [ei] at hj hr
        exact ⟨⟨q1, q2, q3, by rw [hv2, if_neg (by omega), hj, if_neg (by decide)]; exact x4, by rw [hv2, if_pos rfl, hj, if_pos rfl], q6, q7⟩, by rw [r3, c2], fun _ => by rw [y_Kal K, ho, hr, x5]⟩
theorem j_WR (X : y_X n M) (C : y_oWR n p v M M1 r) (R : rf_oWR n p v M1 M2 r2) : y_X n M2 ∧ z_fi M2 1630 (n + 40) = r ∧ (r = 0 → z_al M2 (n + 107) 0 = r2.toInt64) := by
  have key : rf_P4 p → ∀ T : z_ai M1 (n + 66) = z_ai M (n + 66), z_fi M 1152 (n + (12 + 4 * p.toNatClampNeg)) = z_ai M1 (n + 66) p.toNatClampNeg := fun h T => by
    have h' : 0 ≤ p.toInt ∧ p.toInt ≤ 3 := h
    have e := i_nat2 h'.1
    rw [T]; exact X.2.2.2.2.2.1 _ (by omega)
  rcases C with ⟨c1, c2, T⟩ | ⟨c1, c2, c3, T⟩ | ⟨c1, cq, cs, c2, T⟩ | ⟨c1, cq, cs, c2, T, hv, ho⟩
  · rcases R with ⟨-, r3, K⟩ | ⟨h, -⟩ | ⟨h, -⟩ | ⟨h, -⟩
    · exact ⟨y_X0 X T K, by rw [r3, c2], fun h => absurd (c2.symm.trans h) (by decide)⟩
    · exact absurd h c1
    · exact absurd h c1
    · exact absurd h c1
  · rcases R with ⟨h, -⟩ | ⟨-, -, r3, K⟩ | ⟨-, h, -⟩ | ⟨-, h, -⟩
    · exact absurd c1 h
    · exact ⟨y_X0 X T K, by rw [r3, c3], fun h => absurd (c3.symm.trans h) (by decide)⟩
    · exact absurd h c2
    · exact absurd h c2
  · have e66 := y_TA T (show 41 ≤ 66 by decide) (by decide)
    rw [key c1 e66] at cs
    rcases R with ⟨h, -⟩ | ⟨-, h, -⟩ | ⟨-, -, -, r3, K⟩ | ⟨-, -, h, -⟩
    · exact absurd c1 h
    · exact absurd cq h
    · exact ⟨y_X0 X T K, by rw [r3, c2], fun h => absurd (c2.symm.trans h) (by decide)⟩
    · exact absurd cs h
  · have e66 := y_TA T (show 41 ≤ 66 by decide) (by decide)
    have k := key c1 e66
    rw [k] at cs hv ho
    rcases R with ⟨h, -⟩ | ⟨-, h, -⟩ | ⟨-, -, h, -⟩ | ⟨-, -, -, r3, K, hj, hr⟩
    · exact absurd c1 h
    · exact absurd cq h
    · exact absurd h cs
    · obtain ⟨g1, g2, g3⟩ := y_gof T K
      obtain ⟨x1, x2, x3, x4, x5, x6, x7⟩ := X
      have hv2 : ∀ x, z_fi M2 1152 x = if x = n + (12 + 4 * p.toNatClampNeg) then z_ai M1 (n + 66) p.toNatClampNeg + v else z_fi M 1152 x := fun x => by rw [y_KA K (by decide), hv]
      refine ⟨⟨?_, ?_, ?_, ?_, ?_, fun j hjj => ?_, ?_⟩, by rw [r3, c2], fun _ => by rw [y_Kal K, ho, hr]⟩
      · rw [g1 388 (by decide) (by decide) _ (by omega), g2 45 (by decide) (by decide)]; exact x1
      · rw [g1 388 (by decide) (by decide) _ (by omega), g2 45 (by decide) (by decide)]; exact x2
      · rw [g1 1027 (by decide) (by decide) _ (by omega), g3 1563 (by decide) (by decide)]; exact x3
      · rw [g1 256 (by decide) (by decide) _ (by omega), g2 86 (by decide) (by decide)]; exact x4
      · rw [g1 256 (by decide) (by decide) _ (by omega), g2 86 (by decide) (by decide)]; exact x5
      · rw [hv2, hj]
        by_cases h : j = p.toNatClampNeg
        · rw [if_pos (by rw [h]), if_pos h]
        · rw [if_neg (by omega), if_neg h, e66]; exact x6 j hjj
      · rw [g1 645 (by decide) (by decide) _ (by omega), g3 1536 (by decide) (by decide)]; exact x7
theorem j_TI (X : y_X n M) (C : y_oTI n p M M1 r) (R : rf_oTI n p M1 M2 r2) : y_X n M2 ∧ z_fi M2 1630 (n + 40) = r ∧ (r = 0 → z_al M2 (n + 107) 0 = r2.toInt64) := by
  have key : ∀ T : z_fi M1 1536 (n + 40) = z_fi M 1536 (n + 40), z_fi M 645 (n + 1) = z_fi M1 1536 (n + 40) := fun T => by rw [T]; exact X.2.2.2.2.2.2
  rcases C with ⟨c1, c2, T⟩ | ⟨c1, cs, c2, T⟩ | ⟨c1, cs, c2, T, hv, ho⟩
  · rcases R with ⟨-, r3, K⟩ | ⟨h, -⟩ | ⟨h, -⟩
    · exact ⟨y_X0 X T K, by rw [r3, c2], fun h => absurd (c2.symm.trans h) (by decide)⟩
    · exact absurd h c1
    · exact absurd h c1
  · rw [key (T.1 1536 (by decide))] at cs
    rcases R with ⟨h, -⟩ | ⟨-, -, r3, K⟩ | ⟨-, h, -⟩
    · exact absurd c1 h
    · exact ⟨y_X0 X T K, by rw [r3, c2], fun h => absurd (c2.symm.trans h) (by decide)⟩
    · exact absurd h cs
  · rw [key (T.1 1536 (by decide))] at cs hv
    rcases R with ⟨h, -⟩ | ⟨-, h, -⟩ | ⟨-, -, r3, K, hj, hr⟩
    · exact absurd c1 h
    · exact absurd cs h
    · obtain ⟨g1, g2, g3⟩ := y_gof T K
      obtain ⟨x1, x2, x3, x4, x5, x6, x7⟩ := X
      have e : z_fi M1 645 (n + 1) = z_fi M2 1536 (n + 40) := Int32.toInt_inj.1 (by rw [hv, hj])
      refine ⟨⟨?_, ?_, ?_, ?_, ?_, fun j hjj => ?_, ?_⟩, by rw [r3, c2], fun _ => by rw [y_Kal K, ho, hr, e]⟩
      · rw [g1 388 (by decide) (by decide) _ (by omega), g2 45 (by decide) (by decide)]; exact x1
      · rw [g1 388 (by decide) (by decide) _ (by omega), g2 45 (by decide) (by decide)]; exact x2
      · rw [g1 1027 (by decide) (by decide) _ (by omega), g3 1563 (by decide) (by decide)]; exact x3
      · rw [g1 256 (by decide) (by decide) _ (by omega), g2 86 (by decide) (by decide)]; exact x4
      · rw [g1 256 (by decide) (by decide) _ (by omega), g2 86 (by decide) (by decide)]; exact x5
      · rw [g1 1152 (by decide) (by decide) _ (by omega), g2 66 (by decide) (by decide)]; exact x6 j hjj
      · rw [y_KA K (by decide), e]
end XX
