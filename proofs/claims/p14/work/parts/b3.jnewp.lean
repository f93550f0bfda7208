/-! ===== THE LIKENESS: a new packet ===== -/
section JNP
variable {n : Nat} {M M0 M1 M2 M3 : z_Mem} {r r1 r2 : q_R} {TL CL : List Nat} {t s q z : Nat}
theorem j_kS.grow {m : Nat} {s' i : Int32} (h : j_kS n M r m s' i) (h1 : n + 108 ≤ m) (h2 : m < z_sz M) (H : hM n M M1) (ha : ∀ j, j < jN (r.1 1606) → z_ar M1 (n + 38) j = z_ar M (n + 38) j) (h6 : jN (r.1 1606) ≤ jN (r1.1 1606)) : j_kS n M1 r1 m s' i := by
  obtain ⟨q1, q2, -⟩ := H.2 m h1 h2
  unfold j_kS
  rw [q1 512 (by decide), q1 517 (by decide), q1 518 (by decide), q2]
  rcases h with h | ⟨g1, g2, g3, g4⟩ | h | h
  · exact Or.inl h
  · exact Or.inr (Or.inl ⟨g1, g2, Nat.lt_of_lt_of_le g3 h6, by rw [ha _ g3]; exact g4⟩)
  · exact Or.inr (Or.inr (Or.inl h))
  · exact Or.inr (Or.inr (Or.inr h))
theorem j_mS.grow {m th : Nat} (h : j_mS n M r m th) (H : hM n M M1) (ha : ∀ j, j < jN (r.1 1606) → z_ar M1 (n + 38) j = z_ar M (n + 38) j) (h6 : jN (r.1 1606) ≤ jN (r1.1 1606)) (h52 : r1.2 52 = r.2 52) (h53 : r1.2 53 = r.2 53) (h54 : r1.2 54 = r.2 54) : j_mS n M1 r1 m th := by
  obtain ⟨h1, h2, h3, h4⟩ := h
  obtain ⟨q1, q2, -⟩ := H.2 m h1 h2
  refine ⟨h1, Nat.lt_of_lt_of_le h2 H.1, by rw [q1 513 (by decide), h54]; exact h3, ?_⟩
  rw [h52, h53]; exact h4.grow h1 h2 H ha h6
theorem JQ.grow {p : Nat} (h : JQ n M r p) (H : hM n M M1) (ha : ∀ j, j < jN (r.1 1606) → z_ar M1 (n + 38) j = z_ar M (n + 38) j) (hq : z_ar M1 (n + (3 + 2 * p)) = z_ar M (n + (3 + 2 * p))) (hh : z_fi M1 394 (n + (2 + 2 * p)) = z_fi M 394 (n + (2 + 2 * p))) (h6 : jN (r.1 1606) ≤ jN (r1.1 1606)) (h5 : r1.1 1551 = r.1 1551) (hr : ∀ x, x ∈ [50, 51, 52, 53, 54] → r1.2 x = r.2 x) : JQ n M1 r1 p := by
  obtain ⟨h1, h2, h3, h4⟩ := h
  refine ⟨by rw [hh]; exact h1, by rw [hh]; exact h2, fun k hk => ?_, fun k1 k2 m1 m2 a b => ?_⟩
  · rw [hr 51 (by decide)] at hk
    obtain ⟨m, e, h⟩ := h3 k hk
    refine ⟨m, by rw [hq, hh]; exact e, ?_⟩
    rw [hr 50 (by decide)]
    rcases h with h | ⟨th, g1, g2, g3, g4, g5, g6⟩
    · exact Or.inl h
    · refine Or.inr ⟨th, g1, by rw [h5]; exact g2, g3, by rw [hr 54 (by decide)]; exact g4, g5.grow H ha h6 (hr 52 (by decide)) (hr 53 (by decide)) (hr 54 (by decide)), ?_⟩
      rw [(H.2 m g5.1 g5.2.1).1 514 (by decide)]; exact g6
  · rw [hq, hh]; exact h4 k1 k2 m1 m2 a (by rw [← hr 51 (by decide)]; exact b)
theorem JT.grow (h : JT n M r TL) (H : hM n M M1) (ha : ∀ j, j < jN (r.1 1606) → z_ar M1 (n + 38) j = z_ar M (n + 38) j) (hq : z_ar M1 (n + 7) = z_ar M (n + 7)) (hl : z_fi M1 1281 (n + 6) = z_fi M 1281 (n + 6)) (h6 : jN (r.1 1606) ≤ jN (r1.1 1606)) (h5 : r1.1 1551 = r.1 1551) (h54 : r1.1 1554 = r.1 1554) (hr : ∀ x, x ∈ [52, 53, 54, 55, 56] → r1.2 x = r.2 x) : JT n M1 r1 TL := by
  obtain ⟨h1, h2, h3, h4⟩ := h
  refine ⟨hl.trans h1, h2, fun k h => by rw [h54]; exact h3 k h, fun i k e => ?_⟩
  obtain ⟨m, g1, g2, g3, g4, g5⟩ := h4 i k e
  refine ⟨m, by rw [hq]; exact g1, ?_, ?_, ?_, ?_⟩
  · rw [(H.2 m g5.1 g5.2.1).1 514 (by decide), hr 56 (by decide)]; exact g2
  · rw [hr 56 (by decide)]; exact g3
  · rw [hr 55 (by decide), h5]; exact g4
  · rw [hr 55 (by decide)]; exact g5.grow H ha h6 (hr 52 (by decide)) (hr 53 (by decide)) (hr 54 (by decide))
/-- the rows of packets -/
def jPR : List Nat := [71, 72, 73, 74, 75, 76, 78, 79, 80, 81, 82, 83]
set_option maxHeartbeats 4000000 in
theorem JJ.newp (J : JJ n M r TL CL) {P pk : Nat} (hP : r.1 1606 = nI P) (hP4 : P < 400) (pk0 : z_sz M ≤ pk) (E : jE n M M2) (pk1 : pk < z_sz M2) (h768 : z_fi M2 768 pk = nI P) (eM : M1 = z_sfi (z_sfi (z_sfi (z_sfi (z_sar M2 (n + 38) P (some pk)) 133 (n + 31) (nI (P + 1))) 905 (n + 32) (r.2 93 0 + 1)) 899 (n + 32) (z_fi M 899 (n + 32) + 1)) 908 (n + 32) (r.1 1536)) (hf : ∀ g, g ≠ 1606 → r1.1 g = r.1 g) (h6 : r1.1 1606 = nI (P + 1)) (hr : ∀ x, x ∉ [71, 72, 73, 74, 75, 76, 78, 79, 80, 81, 82, 83, 93, 95] → r1.2 x = r.2 x) (hp : ∀ x, x ∈ jPR → ∀ j, j ≠ P → r1.2 x j = r.2 x j) (hpk : ∀ t, t ∈ jPT → z_fi M2 t.1 pk = r1.2 t.2 P) (h71 : r1.2 71 P = 0) (h76 : r1.2 76 P = 0) (h93 : r1.2 93 0 = r.2 93 0 + 1) (h93b : ∀ j, j ≠ 0 → r1.2 93 j = r.2 93 j) (h95 : r1.2 95 0 = r.1 1536) (h95b : ∀ j, j ≠ 0 → r1.2 95 j = r.2 95 j) : JJ n M1 r1 TL CL := by
  obtain ⟨S, js, ja, X, Pk, Q, T, C⟩ := J
  obtain ⟨E1, E2, E3, E4, E5⟩ := E
  have hz := S.2.2.2
  have pN : jN (r.1 1606) = P := by rw [hP]; exact jN_nI (by omega)
  have pN1 : jN (r1.1 1606) = P + 1 := by rw [h6]; exact jN_nI (by omega)
  -- fields
  have en : ∀ {g a : Nat}, g ≠ 133 → g ≠ 905 → g ≠ 899 → g ≠ 908 → z_fi M1 g a = z_fi M2 g a := fun h1 h2 h3 h4 => by rw [eM, zq_fi_sfi, if_neg h4, zq_fi_sfi, if_neg h3, zq_fi_sfi, if_neg h2, zq_fi_sfi, if_neg h1]; rfl
  have ef : ∀ g c : Nat, c < 108 → ¬ (g = 133 ∧ c = 31) → ¬ (g = 905 ∧ c = 32) → ¬ (g = 899 ∧ c = 32) → ¬ (g = 908 ∧ c = 32) → z_fi M1 g (n + c) = z_fi M g (n + c) := fun g c hc h1 h2 h3 h4 => by
    rw [eM, jfi h4, jfi h3, jfi h2, jfi h1]
    exact E3 g (n + c) (by omega)
  have e133 : z_fi M1 133 (n + 31) = nI (P + 1) := by rw [eM, zq_fi_sfi, if_neg (by decide), zq_fi_sfi, if_neg (by decide), zq_fi_sfi, if_neg (by decide), zq_fi_sfi, if_pos rfl, if_pos rfl]
  have e905 : z_fi M1 905 (n + 32) = r.2 93 0 + 1 := by rw [eM, zq_fi_sfi, if_neg (by decide), zq_fi_sfi, if_neg (by decide), zq_fi_sfi, if_pos rfl, if_pos rfl]
  have e899 : z_fi M1 899 (n + 32) = z_fi M 899 (n + 32) + 1 := by rw [eM, zq_fi_sfi, if_neg (by decide), zq_fi_sfi, if_pos rfl, if_pos rfl]
  have e908 : z_fi M1 908 (n + 32) = r.1 1536 := by rw [eM, zq_fi_sfi, if_pos rfl, if_pos rfl]
  have ear : ∀ a, a ≠ n + 38 → z_ar M1 a = z_ar M2 a := fun a ha => by
    rw [eM]
    funext j
    show z_ar (z_sar M2 (n + 38) P (some pk)) a j = z_ar M2 a j
    rw [zq_ar_sar, if_neg ha]
  have e38 : ∀ j, z_ar M1 (n + 38) j = if j = P then some pk else z_ar M (n + 38) j := fun j => by
    rw [eM]
    show z_ar (z_sar M2 (n + 38) P (some pk)) (n + 38) j = _
    rw [zq_ar_sar, if_pos rfl, E5 (n + 38) (by omega)]
  have efr : ∀ g a, z_fr M1 g a = z_fr M2 g a := fun g a => by rw [eM]; rfl
  have eai : ∀ a j, z_ai M1 a j = z_ai M2 a j := fun a j => by rw [eM]; rfl
  have esz : z_sz M1 = z_sz M2 := by rw [eM]; rfl
  have S1 : y_S n M1 := by
    rw [eM]
    exact S_sfi (S_sfi (S_sfi (S_sfi (S_sar (by omega) E2))))
  have H : hM n M M1 := ⟨by rw [esz]; exact E1.1, fun a h0 h1 => by
    obtain ⟨q1, q2, q3⟩ := E1.2 a h0 h1
    refine ⟨fun g hg => ?_, fun g => (efr g a).trans (q2 g), fun j => (eai a j).trans (q3 j)⟩
    rw [← q1 g, eM, zq_fi_sfi, if_neg (by omega), zq_fi_sfi, if_neg (by omega), zq_fi_sfi, if_neg (by omega), zq_fi_sfi, if_neg (show ¬ a = n + 31 by omega), ite_self]
    rfl⟩
  have ha : ∀ j, j < jN (r.1 1606) → z_ar M1 (n + 38) j = z_ar M (n + 38) j := fun j hj => by rw [e38, if_neg (by omega)]
  have h6' : jN (r.1 1606) ≤ jN (r1.1 1606) := by omega
  refine ⟨S1, fun t ht => ?_, fun t ht j hj => ?_, ?_, fun i hi => ?_, fun p hp2 => ?_, ?_, ?_⟩
  · have hR : ∀ t, t ∈ jT → t = (133, 31, 0, 1606) ∨ t = (905, 32, 93, 0) ∨ t = (908, 32, 95, 0) ∨ ((t.2.1 < 108 ∧ ¬ (t.1 = 133 ∧ t.2.1 = 31) ∧ ¬ (t.1 = 905 ∧ t.2.1 = 32) ∧ ¬ (t.1 = 899 ∧ t.2.1 = 32) ∧ ¬ (t.1 = 908 ∧ t.2.1 = 32)) ∧ ((t.2.2.1 = 0 ∧ t.2.2.2 ≠ 1606) ∨ (t.2.2.1 ≠ 0 ∧ (t.2.2.1 = 93 ∧ t.2.2.2 ≠ 0 ∨ t.2.2.1 = 95 ∧ t.2.2.2 ≠ 0 ∨ t.2.2.1 ∉ [71, 72, 73, 74, 75, 76, 78, 79, 80, 81, 82, 83, 93, 95])))) := by decide
    have hJ := js t ht
    rcases hR t ht with rfl | rfl | rfl | ⟨⟨c1, c2, c3, c4, c5⟩, h⟩
    · exact e133.trans h6.symm
    · exact e905.trans h93.symm
    · exact e908.trans h95.symm
    · rw [ef _ _ c1 c2 c3 c4 c5, hJ]
      unfold j_loc
      rcases h with ⟨h1, h2⟩ | ⟨h1, h2⟩
      · rw [if_pos h1, if_pos h1, j_fvc (fun g hg => hf g (by revert hg; revert g; decide)) (hf _ h2)]
      · rw [if_neg h1, if_neg h1]
        rcases h2 with ⟨h2, h3⟩ | ⟨h2, h3⟩ | h2
        · rw [h2, h93b _ h3]
        · rw [h2, h95b _ h3]
        · rw [hr _ h2]
  · have h1 := (show ∀ t, t ∈ jR → t.1 < 108 ∧ t.2.2.1 ∉ [71, 72, 73, 74, 75, 76, 78, 79, 80, 81, 82, 83, 93, 95] from by decide) t ht
    rw [eai, E4 _ _ (by omega), hr _ h1.2]
    exact ja t ht j hj
  · obtain ⟨y1, y2, y3, y4, y5, y6, y7, y8, y9, y10⟩ := X
    have l1 : ∀ s', j_lost r1 s' = j_lost r s' := fun s' => by unfold j_lost; rw [hr 67 (by decide), hr 69 (by decide), hr 70 (by decide)]
    have fl : ∀ p i, i < P → j_fl r1 p i = j_fl r p i := fun p i hi => by unfold j_fl; rw [hp 71 (by decide) i (by omega), hp 76 (by decide) i (by omega)]
    have fc : ∀ p, rf_c (j_fl r1 p) P = rf_c (j_fl r p) P := fun p => rf_c_eq _ (fun j hj => fl p j hj)
    refine ⟨fun p hp2 => ?_, ?_, ?_, fun s' hs' => ?_, fun s' hs' => ?_, fun p hp2 => ?_, ?_, fun p hp2 => ?_, fun p hp2 h => ?_, ?_⟩
    · rw [ef _ _ (by omega) (by omega) (by omega) (by omega) (by omega), hr 45 (by decide)]; exact y1 p hp2
    · rw [hf 1577 (by decide), hf 1582 (by decide), ef _ _ (by omega) (by omega) (by omega) (by omega) (by omega)]; exact y2
    · rw [hf 1567 (by decide), hf 1568 (by decide), ef _ _ (by omega) (by omega) (by omega) (by omega) (by omega)]; exact y3
    · rw [ef _ _ (by omega) (by omega) (by omega) (by omega) (by omega), l1]; exact y4 s' hs'
    · rw [ef _ _ (by omega) (by omega) (by omega) (by omega) (by omega), hr 64 (by decide)]; exact y5 s' hs'
    · rw [pN1]
      have l : p = 0 ∨ p = 1 := by omega
      have hb := rf_c_le (p := j_fl r 0) P
      rcases l with rfl | rfl
      · show z_fi M1 899 (n + 32) = nI (rf_c (j_fl r1 0) P + (if j_fl r1 0 P = true then 1 else 0))
        have k1 : j_fl r1 0 P = true := by unfold j_fl; rw [h71, h76]; rfl
        have k2 : z_fi M 899 (n + 32) = nI (rf_c (j_fl r 0) (jN (r.1 1606))) := y6 0 (by omega)
        rw [e899, k2, pN, k1, if_pos rfl, fc 0, jI_1, jI_add (by omega)]
      · show z_fi M1 899 (n + 35) = nI (rf_c (j_fl r1 1) P + (if j_fl r1 1 P = true then 1 else 0))
        have k1 : j_fl r1 1 P = false := by
          unfold j_fl
          rw [h71]
          exact decide_eq_false (fun h => absurd h.1 (by decide))
        have k2 : z_fi M 899 (n + 35) = nI (rf_c (j_fl r 1) (jN (r.1 1606))) := y6 1 (by omega)
        rw [ef _ _ (by omega) (by omega) (by omega) (by omega) (by omega), k2, pN, k1, fc 1]
        rfl
    · rw [ef _ _ (by omega) (by omega) (by omega) (by omega) (by omega), pN1]
      rw [pN] at y7
      refine ⟨by omega, y7.2.1, fun i hi => ?_⟩
      rw [hp 76 (by decide) i (by omega)]
      exact y7.2.2 i hi
    · rw [ef _ _ (by omega) (by omega) (by omega) (by omega) (by omega), hr 99 (by decide)]; exact y8 p hp2
    · rw [hr 100 (by decide)] at h
      rw [ef _ _ (by omega) (by omega) (by omega) (by omega) (by omega), ef _ _ (by omega) (by omega) (by omega) (by omega) (by omega), hr 103 (by decide), hr 104 (by decide)]
      exact y9 p hp2 h
    · rw [ef _ _ (by omega) (by omega) (by omega) (by omega) (by omega)]; exact y10
  · rw [pN1] at hi
    by_cases c : i = P
    · refine ⟨pk, by rw [e38, if_pos c], by omega, by rw [esz]; exact pk1, by rw [en (by decide) (by decide) (by decide) (by decide), c]; exact h768, fun t ht => ?_⟩
      have h1 : t.1 ≠ 133 ∧ t.1 ≠ 905 ∧ t.1 ≠ 899 ∧ t.1 ≠ 908 := by revert ht; revert t; decide
      rw [en h1.1 h1.2.1 h1.2.2.1 h1.2.2.2, c]
      exact hpk t ht
    · obtain ⟨pk2, g1, g2, g3, g4, g5⟩ := Pk i (by omega)
      obtain ⟨q1, q2, q3⟩ := E1.2 pk2 g2 g3
      refine ⟨pk2, by rw [e38, if_neg c]; exact g1, g2, by rw [esz]; exact Nat.lt_of_lt_of_le g3 E1.1, by rw [en (by decide) (by decide) (by decide) (by decide), q1]; exact g4, fun t ht => ?_⟩
      have h1 : t.1 ≠ 133 ∧ t.1 ≠ 905 ∧ t.1 ≠ 899 ∧ t.1 ≠ 908 ∧ t.2 ∈ jPR := by revert ht; revert t; decide
      rw [en h1.1 h1.2.1 h1.2.2.1 h1.2.2.2.1, q1, hp _ h1.2.2.2.2 i c]
      exact g5 t ht
  · refine (Q p hp2).grow H ha ?_ (ef _ _ (by omega) (by omega) (by omega) (by omega) (by omega)) h6' (hf 1551 (by decide)) (fun x hx => hr x (by revert hx; revert x; decide))
    rw [ear _ (by omega), E5 _ (by omega)]
  · exact T.grow H ha (by rw [ear _ (by omega), E5 _ (by omega)]) (ef _ _ (by omega) (by omega) (by omega) (by omega) (by omega)) h6' (hf 1551 (by decide)) (hf 1554 (by decide)) (fun x hx => hr x (by revert hx; revert x; decide))
  · have e61 := hr 61 (by decide)
    have et := hf 1561 (by decide)
    exact C.congr H (by rw [ear _ (by omega), E5 _ (by omega)]) (ef _ _ (by omega) (by omega) (by omega) (by omega) (by omega)) (by rw [hf 1559 (by decide)]; exact Nat.le_refl _) (by rw [et, e61]; exact C.2.2.2.1) (by rw [et]; exact Nat.le_refl _) (fun t i _ _ => by rw [e61]) (fun x k hx _ => by rw [hr x (by revert hx; revert x; decide)])
end JNP
