/-! ===== WHAT NETWORK AND SERVER KEEP TO, while the path 0 alone sends ===== -/
section NPA
variable {n : Nat} {M M0 M1 M2 M3 : z_Mem} {r r1 r2 : q_R} {TL CL : List Nat} {t s q z c w : Nat} {D : Int}
/-- what lies in queues -/
def nQ (r : q_R) : Prop := ∀ p k, p < 2 → k < jN (r.2 51 p) → r.2 50 (30 * p + k) = -1 ∨ ∃ th, th < jN (r.1 1551) ∧ th < 1300 ∧ r.2 50 (30 * p + k) = nI th ∧ r.2 54 th = nI p
/-- how old hellos and their answers are -/
def nH (D : Int) (r : q_R) : Prop := (∀ k th : Nat, k < jN (r.2 51 0) → r.2 50 k = nI th → th < jN (r.1 1551) → th < 1300 → r.2 52 th = 1 → (r.1 1536).toInt + k ≤ (r.1 1580).toInt + 29 + D) ∧ (∀ th, th < jN (r.1 1551) → r.2 52 th = 1 → r.2 54 th = 0) ∧ (∀ k, k < jN (r.1 1554) → r.2 52 (jN (r.2 55 k)) = 1 → (r.2 56 k).toInt ≤ (r.1 1580).toInt + 110) ∧ (∀ k, k < jN (r.1 1559) → r.2 57 k = 6 → (r.2 60 k).toInt ≤ (r.1 1580).toInt + 140)
/-- a told row speaks of packets that are old enough for an answer of that tick -/
def nTld (r : q_R) (x : Int) (t' : Nat) : Prop := ∀ i, i < jN (r.2 61 (15 * t')) → (r.2 61 (15 * t' + 2 + 2 * i)).toInt < (r.1 1606).toInt ∧ ∀ k : Nat, (k : Int) ≤ (r.2 61 (15 * t' + 2 + 2 * i)).toInt → (r.2 72 k).toInt + 2 ≤ x
/-- data -/
def nD (r : q_R) : Prop := (∀ th, th < jN (r.1 1551) → r.2 52 th = 2 → jN (r.2 53 th) < jN (r.1 1606) ∧ r.2 54 th = 0) ∧ (∀ k, k < jN (r.1 1554) → jN (r.2 55 k) < jN (r.1 1551) ∧ (r.2 52 (jN (r.2 55 k)) = 2 → ∀ j, j ≤ jN (r.2 53 (jN (r.2 55 k))) → (r.2 72 j).toInt < (r.2 56 k).toInt)) ∧ jTK r ∧ (∀ k, k < 400 → ¬ r.2 63 k = 0 → k < jN (r.1 1606) ∧ ∀ j, j ≤ k → (r.2 72 j).toInt < (r.1 1536).toInt) ∧ (∀ a, a < jN (r.1 1559) → r.2 57 a = 7 → jN (r.2 58 a) < jN (r.1 1561) ∧ nTld r (r.2 60 a).toInt (jN (r.2 58 a))) ∧ (∀ i, i < jN (r.1 1606) → 0 ≤ (r.2 78 i).toInt) ∧ (r.1 1573 = 0 ∨ r.1 1573 = 1) ∧ (0 ≤ (r.1 1568).toInt ∧ (r.1 1568).toInt ≤ 2000)
/-- what the two ends are -/
def nS (r : q_R) : Prop := (r.1 1562 = 0 ∨ r.1 1562 = 1 ∨ r.1 1562 = 2 ∨ r.1 1562 = 3) ∧ (r.1 1577 = 0 ∨ r.1 1577 = 1 ∨ r.1 1577 = 2 ∨ r.1 1577 = 3 ∨ r.1 1577 = 4 ∨ r.1 1577 = 5) ∧ (r.1 1562 = 0 → (∀ th, th < jN (r.1 1551) → ¬ r.2 52 th = 4) ∧ (∀ k, k < jN (r.1 1559) → r.2 57 k = 5) ∧ (r.1 1577 = 0 ∨ r.1 1577 = 1)) ∧ (r.1 1577 = 0 → jN (r.1 1551) = 0 ∧ jN (r.1 1559) = 0 ∧ (r.1 1562 = 0 ∨ r.1 1562 = 3)) ∧ (r.1 1577 = 2 ∨ r.1 1577 = 3 → ¬ r.2 91 0 = 0) ∧ (r.1 1577 = 3 → 0 ≤ (r.1 1582).toInt ∧ (r.1 1582).toInt ≤ 2000)
/-- an acknowledgement is due -/
def nFl (r : q_R) : Nat := if r.1 1574 = -1 then 0 else 1
/-- how many arrived at the server -/
def nAr (r : q_R) : Nat := rf_c (fun k => decide ((r.2 56 k).toInt ≤ (r.1 1536).toInt)) (jN (r.1 1554))
/-- counts -/
def nC (c w : Nat) (r : q_R) : Prop := ∃ k H : Nat, H ≤ 18 ∧ (r.1 1577 = 0 → H = 0) ∧ (r.1 1577 = 1 → k ≤ 8 ∧ (r.1 1581).toInt = 10 * (2 ^ k : Nat) ∧ (r.1 1581).toInt ≤ (r.1 1580).toInt + 10 ∧ H ≤ 1 + k + (if r.1 1579 = 0 then 0 else 9)) ∧ jN (r.1 1551) ≤ jN (r.1 1606) + H + c ∧ jN (r.1 1559) + nFl r + w + 2 * jN (r.1 1551) ≤ 2 * jN (r.1 1606) + 2 * H + (r.1 1536).toInt.toNat / 20 + 2 * c + 2 * nAr r
/-- numbers of paths, the client's key -/
def nK (c : Nat) (r : q_R) : Prop := jPA r ∧ 0 ≤ (r.1 1584).toInt ∧ (r.1 1584).toInt ≤ c
def nP (D : Int) (c w : Nat) (r : q_R) : Prop := nQ r ∧ nH D r ∧ nD r ∧ nS r ∧ nC c w r ∧ nK c r
def nPF : List Nat := [1536, 1551, 1554, 1559, 1561, 1562, 1568, 1572, 1573, 1574, 1577, 1579, 1580, 1581, 1582, 1584, 1606]
def nPR : List Nat := [41, 42, 49, 50, 51, 52, 53, 54, 55, 56, 57, 58, 60, 61, 63, 72, 78]
theorem nQ_c (e51 : r1.2 51 = r.2 51) (e50 : r1.2 50 = r.2 50) (f : r1.1 1551 = r.1 1551) (e54 : r1.2 54 = r.2 54) (h : nQ r) : nQ r1 := by
  unfold nQ at h ⊢
  rw [e51, e50, f, e54]; exact h
theorem nH_c (hF : ∀ g, g ∈ [1551, 1536, 1580, 1554, 1559] → r1.1 g = r.1 g) (hA : ∀ x, x ∈ [50, 51, 52, 54, 55, 56, 57, 60] → r1.2 x = r.2 x) (h : nH D r) : nH D r1 := by
  unfold nH at h ⊢
  rw [hF 1551 (by decide), hF 1536 (by decide), hF 1580 (by decide), hF 1554 (by decide), hF 1559 (by decide), hA 50 (by decide), hA 51 (by decide), hA 52 (by decide), hA 54 (by decide), hA 55 (by decide), hA 56 (by decide), hA 57 (by decide), hA 60 (by decide)]
  exact h
theorem nTld_c {x : Int} {t' : Nat} (e61 : r1.2 61 = r.2 61) (f : r1.1 1606 = r.1 1606) (e72 : r1.2 72 = r.2 72) (h : nTld r x t') : nTld r1 x t' := by
  unfold nTld at h ⊢
  rw [e61, f, e72]; exact h
theorem jTK_c (f : r1.1 1572 = r.1 1572) (e : r1.2 63 = r.2 63) (h : jTK r) : jTK r1 := by
  unfold jTK at h ⊢
  rw [f, e]; exact h
theorem nD_c (hF : ∀ g, g ∈ [1551, 1606, 1554, 1536, 1559, 1561, 1572, 1573, 1568] → r1.1 g = r.1 g) (hA : ∀ x, x ∈ [52, 53, 54, 55, 56, 57, 58, 60, 61, 63, 72, 78] → r1.2 x = r.2 x) (h : nD r) : nD r1 := by
  have hT : ∀ x t', nTld r x t' → nTld r1 x t' := fun x t' h => nTld_c (hA 61 (by decide)) (hF 1606 (by decide)) (hA 72 (by decide)) h
  obtain ⟨h1, h2, h3, h4, h5, h6, h7, h8⟩ := h
  refine ⟨?_, ?_, jTK_c (hF 1572 (by decide)) (hA 63 (by decide)) h3, ?_, fun a ha e => ?_, ?_, ?_, ?_⟩
  · rw [hF 1551 (by decide), hF 1606 (by decide), hA 52 (by decide), hA 53 (by decide), hA 54 (by decide)]; exact h1
  · rw [hF 1554 (by decide), hF 1551 (by decide), hA 55 (by decide), hA 52 (by decide), hA 72 (by decide), hA 53 (by decide), hA 56 (by decide)]; exact h2
  · rw [hF 1606 (by decide), hF 1536 (by decide), hA 63 (by decide), hA 72 (by decide)]; exact h4
  · rw [hF 1559 (by decide)] at ha
    rw [hA 57 (by decide)] at e
    rw [hA 58 (by decide), hF 1561 (by decide), hA 60 (by decide)]
    exact ⟨(h5 a ha e).1, hT _ _ (h5 a ha e).2⟩
  · rw [hF 1606 (by decide), hA 78 (by decide)]; exact h6
  · rw [hF 1573 (by decide)]; exact h7
  · rw [hF 1568 (by decide)]; exact h8
theorem nS_c (hF : ∀ g, g ∈ [1562, 1577, 1551, 1559, 1582] → r1.1 g = r.1 g) (hA : ∀ x, x ∈ [52, 57] → r1.2 x = r.2 x) (h91 : r.1 1577 = 2 ∨ r.1 1577 = 3 → ¬ r1.2 91 0 = 0) (h : nS r) : nS r1 := by
  obtain ⟨h1, h2, h3, h4, h5, h6⟩ := h
  refine ⟨?_, ?_, ?_, ?_, ?_, ?_⟩
  · rw [hF 1562 (by decide)]; exact h1
  · rw [hF 1577 (by decide)]; exact h2
  · rw [hF 1562 (by decide), hF 1551 (by decide), hF 1559 (by decide), hF 1577 (by decide), hA 52 (by decide), hA 57 (by decide)]; exact h3
  · rw [hF 1562 (by decide), hF 1551 (by decide), hF 1559 (by decide), hF 1577 (by decide)]; exact h4
  · rw [hF 1577 (by decide)]; exact h91
  · rw [hF 1577 (by decide), hF 1582 (by decide)]; exact h6
theorem nAr_c (f1 : r1.1 1536 = r.1 1536) (f2 : r1.1 1554 = r.1 1554) (e : r1.2 56 = r.2 56) : nAr r1 = nAr r := by
  unfold nAr; rw [f1, f2, e]
theorem nC_c (hF : ∀ g, g ∈ [1577, 1581, 1580, 1579, 1551, 1606, 1559, 1574, 1554, 1536] → r1.1 g = r.1 g) (e : r1.2 56 = r.2 56) (h : nC c w r) : nC c w r1 := by
  have ea := nAr_c (hF 1536 (by decide)) (hF 1554 (by decide)) e
  unfold nC nFl at h ⊢
  rw [ea, hF 1577 (by decide), hF 1581 (by decide), hF 1580 (by decide), hF 1579 (by decide), hF 1551 (by decide), hF 1606 (by decide), hF 1559 (by decide), hF 1574 (by decide), hF 1536 (by decide)]
  exact h
theorem jPA_c (f : r1.1 1536 = r.1 1536) (hA : ∀ x, x ∈ [41, 42, 49, 51] → r1.2 x = r.2 x) (h : jPA r) : jPA r1 := by
  unfold jPA at h ⊢
  rw [f, hA 41 (by decide), hA 42 (by decide), hA 49 (by decide), hA 51 (by decide)]
  exact h
theorem nK_c (f : r1.1 1536 = r.1 1536) (f2 : r1.1 1584 = r.1 1584) (hA : ∀ x, x ∈ [41, 42, 49, 51] → r1.2 x = r.2 x) (h : nK c r) : nK c r1 := by
  refine ⟨jPA_c f hA h.1, ?_⟩
  rw [f2]; exact h.2
theorem nP_c (hF : ∀ g, g ∈ nPF → r1.1 g = r.1 g) (hA : ∀ x, x ∈ nPR → r1.2 x = r.2 x) (h91 : r.1 1577 = 2 ∨ r.1 1577 = 3 → ¬ r1.2 91 0 = 0) (h : nP D c w r) : nP D c w r1 := by
  obtain ⟨h1, h2, h3, h4, h5, h6⟩ := h
  exact ⟨nQ_c (hA 51 (by decide)) (hA 50 (by decide)) (hF 1551 (by decide)) (hA 54 (by decide)) h1, nH_c (fun g hg => hF g (by revert hg; revert g; decide)) (fun x hx => hA x (by revert hx; revert x; decide)) h2, nD_c (fun g hg => hF g (by revert hg; revert g; decide)) (fun x hx => hA x (by revert hx; revert x; decide)) h3, nS_c (fun g hg => hF g (by revert hg; revert g; decide)) (fun x hx => hA x (by revert hx; revert x; decide)) h91 h4, nC_c (fun g hg => hF g (by revert hg; revert g; decide)) (hA 56 (by decide)) h5, nK_c (hF 1536 (by decide)) (hF 1584 (by decide)) (fun x hx => hA x (by revert hx; revert x; decide)) h6⟩
theorem nP_fr {Fs Rs : List Nat} (H : q_fr Fs Rs r r1) (h1 : ∀ g, g ∈ nPF → g ∉ Fs) (h2 : ∀ x, x ∈ nPR → x ∉ Rs) (h91 : 91 ∉ Rs) (h : nP D c w r) : nP D c w r1 := nP_c (fun g hg => H.1 g (h1 g hg)) (fun x hx => H.2 x (h2 x hx)) (fun hc => by rw [H.2 91 h91]; exact h.2.2.2.1.2.2.2.2.1 hc) h
theorem nP_w {w2 : Nat} (h : nP D c w r) (hw : w2 ≤ w) : nP D c w2 r := by
  obtain ⟨h1, h2, h3, h4, ⟨k, H, a1, a2, a3, a4, a5⟩, h6⟩ := h
  exact ⟨h1, h2, h3, h4, ⟨k, H, a1, a2, a3, a4, by omega⟩, h6⟩
theorem nP_c1 {c2 : Nat} (h : nP D c w r) (hc : c ≤ c2) : nP D c2 w r := by
  obtain ⟨h1, h2, h3, h4, ⟨k, H, a1, a2, a3, a4, a5⟩, h6⟩ := h
  exact ⟨h1, h2, h3, h4, ⟨k, H, a1, a2, a3, by omega, by omega⟩, h6.1, h6.2.1, by have := h6.2.2; omega⟩
theorem nP_D {D2 : Int} (h : nP D c w r) (hD : D ≤ D2) : nP D2 c w r := by
  obtain ⟨h1, ⟨g1, g2, g3, g4⟩, h3, h4, h5, h6⟩ := h
  exact ⟨h1, ⟨fun k th a b e1 e2 e3 => by have := g1 k th a b e1 e2 e3; omega, g2, g3, g4⟩, h3, h4, h5, h6⟩
/-- bounds that follow -/
theorem nAr_le (I : rf_I t s q z r.1 r.2) : nAr r ≤ jN (r.1 1554) ∧ jN (r.1 1554) ≤ jN (r.1 1551) := by
  have b54 := ri_F I (g := 1554) (lo := 0) (hi := 1300) (by decide)
  have b51 := ri_F I (g := 1551) (lo := 0) (hi := 1300) (by decide)
  have n54 := jN_toInt b54.1
  have n51 := jN_toInt b51.1
  have c11 := I.2.2.2.2.2.2.2.2.2.2.1
  unfold rf_C11 at c11
  refine ⟨rf_c_le _, by omega⟩
theorem nC_b (h : nC c w r) (I : rf_I t s q z r.1 r.2) (hc : c ≤ 512) : jN (r.1 1551) ≤ 930 ∧ (r.1 1554).toInt ≤ 930 ∧ jN (r.1 1559) + w ≤ 1960 := by
  obtain ⟨k, H, a1, a2, a3, a4, a5⟩ := h
  have hb := ri_pk I
  have hn := ri_now I
  obtain ⟨l1, l2⟩ := nAr_le I
  have b54 := ri_F I (g := 1554) (lo := 0) (hi := 1300) (by decide)
  have n54 := jN_toInt b54.1
  refine ⟨by omega, by omega, by omega⟩
/-- now is 1 more -/
theorem nP_now (h : nP 0 c 0 r) (hn : (r.1 1536).toInt < 2000) (h0 : 0 ≤ (r.1 1536).toInt) : nP 1 c (2 * rf_c (fun k => decide (r.2 56 k = r.1 1536 + 1)) (jN (r.1 1554)) + (if (r.1 1536 + 1) - (r.1 1536 + 1) / 20 * 20 = 0 then 1 else 0)) (uf r 1536 (r.1 1536 + 1)) := by
  have e1 : (r.1 1536 + 1).toInt = (r.1 1536).toInt + 1 := i_addE rfl (show (1 : Int32).toInt = 1 from rfl) (by omega) (by omega)
  have hu : ∀ g, g ≠ 1536 → (uf r 1536 (r.1 1536 + 1)).1 g = r.1 g := fun g hg => uf_n hg
  have hv : (uf r 1536 (r.1 1536 + 1)).1 1536 = r.1 1536 + 1 := uf_e
  have h2 : (uf r 1536 (r.1 1536 + 1)).2 = r.2 := rfl
  obtain ⟨q1, ⟨g1, g2, g3, g4⟩, ⟨d1, d2, d3, d4, d5, d6, d7, d8⟩, s1, ⟨k, H, a1, a2, a3, a4, a5⟩, p1⟩ := h
  have em : (r.1 1536 + 1 - (r.1 1536 + 1) / 20 * 20).toInt = ((r.1 1536).toInt + 1) % 20 := by
    have ed : ((r.1 1536 + 1) / 20).toInt = ((r.1 1536).toInt + 1) / 20 := i_divE e1 (show (20 : Int32).toInt = 20 from rfl) (by omega) (by omega)
    have em : ((r.1 1536 + 1) / 20 * 20).toInt = ((r.1 1536).toInt + 1) / 20 * 20 := i_mulE ed (show (20 : Int32).toInt = 20 from rfl) (by omega) (by omega)
    rw [i_subE e1 em (by omega) (by omega)]; omega
  refine ⟨q1, ⟨fun k th b1 b2 b3 b4 b5 => ?_, g2, g3, g4⟩, ⟨d1, d2, d3, fun k hk h63 => ?_, d5, d6, d7, d8⟩, ?_, ⟨k, H, a1, a2, a3, a4, ?_⟩, ?_⟩
  · have := g1 k th b1 b2 b3 b4 b5
    show ((r.1 1536 + 1 : Int32)).toInt + k ≤ (r.1 1580).toInt + 29 + 1
    omega
  · have := d4 k hk h63
    refine ⟨this.1, fun j hj => ?_⟩
    have := this.2 j hj
    show (r.2 72 j).toInt < ((r.1 1536 + 1 : Int32)).toInt
    omega
  · exact nS_c (r := r) (fun g hg => hu g (by revert hg; revert g; decide)) (fun _ _ => rfl) s1.2.2.2.2.1 s1
  · have ea : nAr (uf r 1536 (r.1 1536 + 1)) = nAr r + rf_c (fun k => decide (r.2 56 k = r.1 1536 + 1)) (jN (r.1 1554)) := by
      unfold nAr
      rw [hv, hu 1554 (by decide), h2]
      refine rf_c_add (fun k => ?_) _
      by_cases e : r.2 56 k = r.1 1536 + 1
      · rw [e]
        rw [if_pos (decide_eq_true (Int.le_refl _)), if_neg (by rw [decide_eq_true_eq]; omega), if_pos (decide_eq_true rfl)]
      · have e2 : ¬ (r.2 56 k).toInt = (r.1 1536 + 1 : Int32).toInt := fun h => e (Int32.toInt_inj.mp h)
        rw [if_neg (show ¬ decide (r.2 56 k = r.1 1536 + 1) = true by rw [decide_eq_true_eq]; exact e)]
        by_cases e3 : (r.2 56 k).toInt ≤ (r.1 1536).toInt
        · rw [if_pos (decide_eq_true (show (r.2 56 k).toInt ≤ (r.1 1536 + 1 : Int32).toInt by omega)), if_pos (decide_eq_true e3)]
        · rw [if_neg (show ¬ decide ((r.2 56 k).toInt ≤ (r.1 1536 + 1 : Int32).toInt) = true by rw [decide_eq_true_eq]; omega), if_neg (show ¬ decide ((r.2 56 k).toInt ≤ (r.1 1536).toInt) = true by rw [decide_eq_true_eq]; exact e3)]
    have ef : nFl (uf r 1536 (r.1 1536 + 1)) = nFl r := by
      unfold nFl
      rw [hu 1574 (by decide)]
    rw [ea, ef, hv, hu 1559 (by decide), hu 1551 (by decide), hu 1606 (by decide), e1]
    by_cases c20 : (r.1 1536 + 1) - (r.1 1536 + 1) / 20 * 20 = 0
    · rw [if_pos c20]
      rw [c20, show (0 : Int32).toInt = 0 from rfl] at em
      omega
    · rw [if_neg c20]; omega
  · obtain ⟨⟨x1, x2, x3, x4, x5⟩, x6⟩ := p1
    refine ⟨⟨x1, x2, x3, x4, ?_⟩, ?_⟩
    · rw [hv]; omega
    · rw [hu 1584 (by decide)]; exact x6
end NPA
