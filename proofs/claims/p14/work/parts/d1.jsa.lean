/-! ===== THE LIKENESS: all that arrives at the server ===== -/
section JSA
variable {n : Nat} {M M0 M1 M2 M3 : z_Mem} {r r1 r2 : q_R} {TL CL A B : List Nat} {t s q z k c w : Nat} {d D : Int}
theorem q_hearsF {p x : Int32} : q_fr [1559, 1562, 1564] [47, 57, 58, 59, 60, 62] r (qF_hears p x r) := by
  have h124 : ∀ a, q_fr [1559, 1562, 1564] [47, 57, 58, 59, 60, 62] a (qF_hears_124 p a) := fun a => by
    rw [qE_hears_124]
    split
    · exact q_frw q_ansF (by decide) (by decide)
    · exact q_frw q_ansF (by decide) (by decide)
  have h106 : ∀ x4 t1 a, q_fr [1559, 1562, 1564] [47, 57, 58, 59, 60, 62] a (qF_hears_106 p x4 t1 a) := fun x4 t1 a => by
    rw [qE_hears_106]
    show q_fr _ _ a (if (uf a 1564 t1).1 1564 = 0 then qF_hears_124 p (uf a 1564 t1) else qF_hears_124 p (ua (uf a 1564 t1) 62 x4.toNatClampNeg 1))
    split
    · exact q_frt (q_fruf (by decide) q_fr0) (h124 _)
    · exact q_frt (q_frua (by decide) (q_fruf (by decide) q_fr0)) (h124 _)
  have h80 : ∀ x4 a, q_fr [1559, 1562, 1564] [47, 57, 58, 59, 60, 62] a (qF_hears_80 p x4 a) := fun x4 a => by
    rw [qE_hears_80]
    show q_fr _ _ a (if x4 < 0 then qF_hears_105 p x4 (uf a 1562 1) else if (uf a 1562 1).2 62 x4.toNatClampNeg = 0 then qF_hears_106 p x4 1 (uf a 1562 1) else qF_hears_105 p x4 (uf a 1562 1))
    rw [qE_hears_105]
    have h0 : q_fr [1559, 1562, 1564] [47, 57, 58, 59, 60, 62] a (uf a 1562 1) := q_fruf (by decide) q_fr0
    split
    · exact q_frt h0 (h106 _ _ _)
    · split
      · exact q_frt h0 (h106 _ _ _)
      · exact q_frt h0 (h106 _ _ _)
  have h12 : ∀ t0, q_fr [1559, 1562, 1564] [47, 57, 58, 59, 60, 62] r (qF_hears_12 p x t0 r) := fun t0 => by
    rw [qE_hears_12]
    show q_fr _ _ r (if r.1 1562 = 2 then r else if r.1 1562 = 1 then (if r.1 1564 = 0 then qF_answers p 6 0 r else qF_answers p 6 1 r) else if r.1 1563 = 0 then qF_hears_80 p (x / 2 - 1) r else if t0 = 0 then qF_answers p 5 0 r else qF_hears_80 p (x / 2 - 1) r)
    split
    · exact q_fr0
    · split
      · split
        · exact q_frw q_ansF (by decide) (by decide)
        · exact q_frw q_ansF (by decide) (by decide)
      · split
        · exact h80 _ _
        · split
          · exact q_frw q_ansF (by decide) (by decide)
          · exact h80 _ _
  rw [qE_hears]
  split
  · exact h12 1
  · exact h12 0
theorem q_a46F {x p : Int32} : q_fr [1559, 1562] [47, 57, 58, 59, 60] r (qF_arrivesAtServer_46 x p r) := by
  have ha : ∀ a, q_fr [1559, 1562] [47, 57, 58, 59, 60] r (qF_answers p a 0 r) := fun a => q_frw q_ansF (by decide) (by decide)
  have hc : q_fr [1559, 1562] [47, 57, 58, 59, 60] r (uf r 1562 2) := q_fruf (by decide) q_fr0
  rw [q_a46]
  split
  · exact ha 9
  · split
    · split
      · exact ha 8
      · split
        · exact hc
        · exact q_fr0
    · split
      · exact hc
      · exact q_fr0
def q_AF : List Nat := [1562, 1564, 1575, 1559, 1561, 1573, 1574, 1572, 1576, 1566, 1567, 1568]
def q_AR : List Nat := [62, 47, 57, 58, 59, 60, 61, 106, 77, 63, 64]
theorem q_arrF (I : rf_I t s q z r.1 r.2) (h1 : (r.1 1561).toInt < 3600) {th : Nat} (hth : th < 1300) : q_fr q_AF q_AR r (qF_arrivesAtServer (nI th) r) := by
  have et : (nI th).toNatClampNeg = th := jI_N (by omega)
  have b61 := ri_F I (g := 1561) (lo := 0) (hi := 3600) (by decide)
  have e53 := ri_A I (x := 53) (lo := 0) (hi := 399) (by decide) th
  have n53 := jN_toInt e53.1
  have i53 := jI_jN e53.1
  have eA : qF_arrivesAtServer (nI th) r = (if r.2 52 th = 1 then qF_hears (r.2 54 th) (r.2 53 th) r else if r.2 52 th = 2 then qF_arrivesAtServer_46 (r.2 52 th) (r.2 54 th) (qF_takes (r.2 53 th) r) else qF_arrivesAtServer_46 (r.2 52 th) (r.2 54 th) r) := by
    rw [qE_arrivesAtServer, et]; rfl
  rw [eA]
  split
  · exact q_frw q_hearsF (by decide) (by decide)
  · split
    · have := (q_takesF (i := jN (r.2 53 th)) I (by omega) b61.1 h1).2
      rw [i53] at this
      exact q_frt (q_frw this (by decide) (by decide)) (q_frw q_a46F (by decide) (by decide))
    · exact q_frw q_a46F (by decide) (by decide)
/-- there is room for an answer, and for a row of what is told -/
theorem ri_tel (I : rf_I t (s + 1) (q + 1) z r.1 r.2) : (0 ≤ (r.1 1561).toInt ∧ (r.1 1561).toInt < 3600) ∧ (0 ≤ (r.1 1559).toInt ∧ (r.1 1559).toInt < 3600) := by
  have c12 := I.2.2.2.2.2.2.2.2.2.2.2
  obtain ⟨l1, l2⟩ := nAr_le I
  have b61 := ri_F I (g := 1561) (lo := 0) (hi := 3600) (by decide)
  have b59 := ri_F I (g := 1559) (lo := 0) (hi := 3600) (by decide)
  have b54 := ri_F I (g := 1554) (lo := 0) (hi := 1300) (by decide)
  have b51 := ri_F I (g := 1551) (lo := 0) (hi := 1300) (by decide)
  have b80 := ri_F I (g := 1580) (lo := 0) (hi := 2000) (by decide)
  have n51 := jN_toInt b51.1
  have bn := ri_now I
  have bP := ri_P I
  unfold rf_C12 at c12
  have e : nAr r = rf_c (fun k => decide ((r.2 56 k).toInt ≤ (r.1 1536).toInt)) (r.1 1554).toInt.toNat := rfl
  rw [← e] at c12
  have h : (0 : Int) ≤ (if r.1 1579 = 0 then 1 else 0) := by split <;> decide
  omega
theorem j_takeT (J : JJ n M r TL CL) (v : Int32) : ((∀ i, i ∈ TL → ¬ r.2 56 i = v) → cF_X10_takeDue (n + 6) v M = (none, M)) ∧ (∀ A k B, TL = A ++ k :: B → (∀ i, i ∈ A → ¬ r.2 56 i = v) → r.2 56 k = v → cF_X10_takeDue (n + 6) v M = (z_ar M (n + 7) A.length, j_tk M (n + 6) (n + 7) (A ++ k :: B).length A.length)) := by
  have S := J.1
  have T := J.2.2.2.2.2.2.1
  have hD : ∀ i, i < TL.length → ∃ m, z_ar M (n + 7) i = some m ∧ z_fi M 514 m = r.2 56 ((TL[i]?).getD 0) := fun i hi => by
    have e := List.getElem?_eq_getElem hi
    obtain ⟨m, g1, g2, -⟩ := T.2.2.2 i _ e
    exact ⟨m, g1, by rw [e]; exact g2⟩
  have K := t_take (now := v) (s_1280_6 S) T.1 (by rw [s_l7 S]; exact T.2.1) (by rw [s_l7 S]; decide) hD TL.length 0 (Nat.zero_add _) (fun j hj => absurd hj (Nat.not_lt_zero _))
  rw [cE_X10_takeDue]
  have e0 : (0 : Int32) = nI 0 := rfl
  rw [e0]
  refine ⟨fun h => ?_, fun A k B e hA hk => ?_⟩
  · rcases K with ⟨h1, -⟩ | ⟨i', h1, h2, h3, -⟩
    · exact h1
    · rw [List.getElem?_eq_getElem h1] at h3
      exact absurd h3 (h _ (List.getElem_mem h1))
  · rw [e] at K
    have hl : A.length < (A ++ k :: B).length := by rw [List.length_append, List.length_cons]; omega
    rcases K with ⟨-, h1⟩ | ⟨i', h1, h2, h3, h4⟩
    · have := h1 A.length hl
      rw [dl_mid] at this
      exact absurd hk this
    · have : i' = A.length := by
        by_cases c1 : i' < A.length
        · rw [List.getElem?_append_left c1, List.getElem?_eq_getElem c1] at h3
          exact absurd h3 (hA _ (List.getElem_mem c1))
        · by_cases c2 : A.length < i'
          · have := h2 A.length c2
            rw [dl_mid] at this
            exact absurd hk this
          · omega
      rw [this] at h4
      exact h4
theorem j_takeC (J : JJ n M r TL CL) (v : Int32) : ((∀ i, i ∈ CL → ¬ r.2 60 i = v) → cF_X10_takeDue (n + 8) v M = (none, M)) ∧ (∀ A k B, CL = A ++ k :: B → (∀ i, i ∈ A → ¬ r.2 60 i = v) → r.2 60 k = v → cF_X10_takeDue (n + 8) v M = (z_ar M (n + 9) A.length, j_tk M (n + 8) (n + 9) (A ++ k :: B).length A.length)) := by
  have S := J.1
  have T := J.2.2.2.2.2.2.2
  have hD : ∀ i, i < CL.length → ∃ m, z_ar M (n + 9) i = some m ∧ z_fi M 514 m = r.2 60 ((CL[i]?).getD 0) := fun i hi => by
    have e := List.getElem?_eq_getElem hi
    obtain ⟨m, g1, -, -, -, g2, -⟩ := T.2.2.2.2 i _ e
    exact ⟨m, g1, by rw [e]; exact g2⟩
  have K := t_take (now := v) (s_1280_8 S) T.1 (by rw [s_l9 S]; exact T.2.1) (by rw [s_l9 S]; decide) hD CL.length 0 (Nat.zero_add _) (fun j hj => absurd hj (Nat.not_lt_zero _))
  rw [cE_X10_takeDue]
  have e0 : (0 : Int32) = nI 0 := rfl
  rw [e0]
  refine ⟨fun h => ?_, fun A k B e hA hk => ?_⟩
  · rcases K with ⟨h1, -⟩ | ⟨i', h1, h2, h3, -⟩
    · exact h1
    · rw [List.getElem?_eq_getElem h1] at h3
      exact absurd h3 (h _ (List.getElem_mem h1))
  · rw [e] at K
    have hl : A.length < (A ++ k :: B).length := by rw [List.length_append, List.length_cons]; omega
    rcases K with ⟨-, h1⟩ | ⟨i', h1, h2, h3, h4⟩
    · have := h1 A.length hl
      rw [dl_mid] at this
      exact absurd hk this
    · have : i' = A.length := by
        by_cases c1 : i' < A.length
        · rw [List.getElem?_append_left c1, List.getElem?_eq_getElem c1] at h3
          exact absurd h3 (hA _ (List.getElem_mem c1))
        · by_cases c2 : A.length < i'
          · have := h2 A.length c2
            rw [dl_mid] at this
            exact absurd hk this
          · omega
      rw [this] at h4
      exact h4
end JSA
