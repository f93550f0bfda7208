/-! ===== THE LIKENESS: a message at the client ===== -/
section JHC2
variable {n : Nat} {M M0 M1 M2 : z_Mem} {r r1 r2 : q_R} {TL CL : List Nat} {t s q z : Nat}
theorem q_a153 {x2 : Int32} (h : ¬ x2 = 9) : qF_arrivesAtClient_153 x2 r = r := by rw [qE_arrivesAtClient_153, if_neg h]
theorem q_a116 {x1 x2 : Int32} (h : ¬ x2 = 9) (h8 : ¬ x2 = 8) : qF_arrivesAtClient_116 x1 x2 r = r := by rw [qE_arrivesAtClient_116, if_neg h8, q_a153 h]
theorem q_a81 {x1 x2 : Int32} (h : ¬ x2 = 9) (h8 : ¬ x2 = 8) (h7 : ¬ x2 = 7) : qF_arrivesAtClient_81 x1 x2 r = r := by rw [qE_arrivesAtClient_81, if_neg h7, q_a116 h h8]
/-- what an answer does, by its sort -/
theorem q_arr5 {k : Nat} (hk : k < 3600) (hs : r.2 57 k = 5) : qF_arrivesAtClient (nI k) r = (if r.1 1577 = 1 ∧ r.1 1579 = 0 then qF_saysHello (uf (uf r 1579 1) 1581 10) else r) := by
  have hQ := qE_arrivesAtClient (nI k) r
  rw [jI_N (by omega : k < 2147483648), hs] at hQ
  replace hQ := hQ.trans (q_ste (b := (5 : Int32)) rfl)
  have h45 : qF_arrivesAtClient_45 (nI k) 5 r = r := by
    rw [qE_arrivesAtClient_45, if_neg (by decide), qE_arrivesAtClient_81, if_neg (by decide), qE_arrivesAtClient_116, if_neg (by decide), qE_arrivesAtClient_153, if_neg (by decide)]
  rw [if_pos rfl, h45] at hQ
  by_cases c1 : r.1 1577 = 1
  · rw [if_pos c1] at hQ
    by_cases c2 : r.1 1579 = 0
    · rw [if_pos c2] at hQ
      rw [if_pos ⟨c1, c2⟩]
      exact hQ.trans ((q_ste rfl).trans ((q_ste rfl).trans (q_ste rfl)))
    · rw [if_neg c2] at hQ
      rw [if_neg (fun h => c2 h.2)]; exact hQ
  · rw [if_neg c1] at hQ
    rw [if_neg (fun h => c1 h.1)]; exact hQ
theorem q_arr6 {k : Nat} (hk : k < 3600) (hs : r.2 57 k = 6) : qF_arrivesAtClient (nI k) r = (if r.1 1577 = 1 then qF_hearsAccept (if r.2 58 k = 1 then 1 else 0) r else r) := by
  have hQ := qE_arrivesAtClient (nI k) r
  rw [jI_N (by omega : k < 2147483648), hs] at hQ
  replace hQ := hQ.trans (q_ste (b := (6 : Int32)) rfl)
  rw [if_neg (by decide), qE_arrivesAtClient_45, if_pos rfl, jI_N (by omega : k < 2147483648), q_a81 (by decide) (by decide) (by decide)] at hQ
  by_cases c1 : r.1 1577 = 1
  · rw [if_pos c1] at hQ ⊢
    by_cases c2 : r.2 58 k = 1
    · rw [if_pos c2] at hQ ⊢; exact hQ.trans (q_ste rfl)
    · rw [if_neg c2] at hQ ⊢; exact hQ.trans (q_ste rfl)
  · rw [if_neg c1] at hQ ⊢; exact hQ
theorem q_arr7 {k : Nat} (hk : k < 3600) (hs : r.2 57 k = 7) : qF_arrivesAtClient (nI k) r = (if r.1 1577 = 2 ∨ r.1 1577 = 3 then qF_hearsAck (r.2 58 k) r else r) := by
  have hQ := qE_arrivesAtClient (nI k) r
  rw [jI_N (by omega : k < 2147483648), hs] at hQ
  replace hQ := hQ.trans (q_ste (b := (7 : Int32)) rfl)
  rw [if_neg (by decide), qE_arrivesAtClient_45, if_neg (by decide), qE_arrivesAtClient_81, if_pos rfl, jI_N (by omega : k < 2147483648), q_a116 (by decide) (by decide)] at hQ
  by_cases c1 : r.1 1577 = 2
  · rw [if_pos c1] at hQ
    rw [if_pos (Or.inl c1)]; exact hQ.trans (q_ste rfl)
  · rw [if_neg c1] at hQ
    by_cases c2 : r.1 1577 = 3
    · rw [if_pos c2] at hQ
      rw [if_pos (Or.inr c2)]; exact hQ.trans (q_ste rfl)
    · rw [if_neg c2] at hQ
      rw [if_neg (fun h => h.elim c1 c2)]; exact hQ
theorem q_arr8 {k : Nat} (hk : k < 3600) (hs : r.2 57 k = 8) : qF_arrivesAtClient (nI k) r = (if r.1 1577 = 4 ∨ r.1 1577 = 5 then r else ua r 92 (jN (r.2 59 k)) 1) := by
  have hQ := qE_arrivesAtClient (nI k) r
  rw [jI_N (by omega : k < 2147483648), hs] at hQ
  replace hQ := hQ.trans (q_ste (b := (8 : Int32)) rfl)
  rw [if_neg (by decide), qE_arrivesAtClient_45, if_neg (by decide), qE_arrivesAtClient_81, if_neg (by decide), qE_arrivesAtClient_116, if_pos rfl, jI_N (by omega : k < 2147483648), q_a153 (by decide)] at hQ
  by_cases c1 : r.1 1577 = 4
  · rw [if_pos c1] at hQ
    rw [if_pos (Or.inl c1)]; exact hQ
  · rw [if_neg c1] at hQ
    by_cases c2 : r.1 1577 = 5
    · rw [if_pos c2] at hQ
      rw [if_pos (Or.inr c2)]; exact hQ
    · rw [if_neg c2] at hQ
      rw [if_neg (fun h => h.elim c1 c2)]; exact hQ.trans (q_ste rfl)
theorem q_arr9 {k : Nat} (hk : k < 3600) (hs : r.2 57 k = 9) : qF_arrivesAtClient (nI k) r = (if r.1 1577 = 4 then r else uf r 1577 5) := by
  have hQ := qE_arrivesAtClient (nI k) r
  rw [jI_N (by omega : k < 2147483648), hs] at hQ
  replace hQ := hQ.trans (q_ste (b := (9 : Int32)) rfl)
  rw [if_neg (by decide), qE_arrivesAtClient_45, if_neg (by decide), qE_arrivesAtClient_81, if_neg (by decide), qE_arrivesAtClient_116, if_neg (by decide), qE_arrivesAtClient_153, if_pos rfl] at hQ
  by_cases c1 : r.1 1577 = 4
  · rw [if_pos c1] at hQ ⊢; exact hQ
  · rw [if_neg c1] at hQ ⊢; exact hQ.trans (q_ste rfl)
theorem rI_cook (I : rf_I t s q z r.1 r.2) (hc : r.1 1579 = 0) : rf_I (t + 1) (s + 1) (q + 1) z (uf (uf (uf r 1579 1) 1581 10) 1580 (r.1 1536)).1 (uf (uf (uf r 1579 1) 1581 10) 1580 (r.1 1536)).2 ∧ rf_I (t + 1) (s + 1) (q + 1) z (uf (uf r 1579 1) 1581 10).1 (uf (uf r 1579 1) 1581 10).2 := by
  obtain ⟨c1, c2, c3, c4, c5, c6, c7, c8, c9, c10, c11, c12⟩ := I
  have k36 := c2 (1536, 0, 2000) (by decide)
  have k80 := c2 (1580, 0, 2000) (by decide)
  dsimp only at k36 k80
  have c92 := c9.2
  have w : ∀ k, k ≠ 1579 → k ≠ 1581 → k ≠ 1580 → (uf (uf (uf r 1579 1) 1581 10) 1580 (r.1 1536)).1 k = r.1 k := fun k h1 h2 h3 => by rw [uf_n h3, uf_n h2, uf_n h1]
  have w2 : ∀ k, k ≠ 1579 → k ≠ 1581 → (uf (uf r 1579 1) 1581 10).1 k = r.1 k := fun k h1 h2 => by rw [uf_n h2, uf_n h1]
  have v79 : (uf (uf (uf r 1579 1) 1581 10) 1580 (r.1 1536)).1 1579 = 1 := by rw [uf_n (by decide), uf_n (by decide), uf_e]
  have v81 : (uf (uf (uf r 1579 1) 1581 10) 1580 (r.1 1536)).1 1581 = 10 := by rw [uf_n (by decide), uf_e]
  have v80 : (uf (uf (uf r 1579 1) 1581 10) 1580 (r.1 1536)).1 1580 = r.1 1536 := uf_e
  have u79 : (uf (uf r 1579 1) 1581 10).1 1579 = 1 := by rw [uf_n (by decide), uf_e]
  have u81 : (uf (uf r 1579 1) 1581 10).1 1581 = 10 := uf_e
  refine ⟨⟨c1, fun tr htr => ?_, c3, c4.congr (fun _ _ => rfl) (fun y hy => w y (by revert hy; revert y; decide) (by revert hy; revert y; decide) (by revert hy; revert y; decide)), c5, c6.congr (fun _ _ => rfl) (fun y hy => w y (by revert hy; revert y; decide) (by revert hy; revert y; decide) (by revert hy; revert y; decide)), c7, c8.congr (fun _ _ => rfl) (fun y hy => w y (by revert hy; revert y; decide) (by revert hy; revert y; decide) (by revert hy; revert y; decide)), ?_, c10, c11.congr (fun _ _ => rfl) (fun y hy => w y (by revert hy; revert y; decide) (by revert hy; revert y; decide) (by revert hy; revert y; decide)), ?_⟩, ⟨c1, fun tr htr => ?_, c3, c4.congr (fun _ _ => rfl) (fun y hy => w2 y (by revert hy; revert y; decide) (by revert hy; revert y; decide)), c5, c6.congr (fun _ _ => rfl) (fun y hy => w2 y (by revert hy; revert y; decide) (by revert hy; revert y; decide)), c7, c8.congr (fun _ _ => rfl) (fun y hy => w2 y (by revert hy; revert y; decide) (by revert hy; revert y; decide)), ?_, c10, c11.congr (fun _ _ => rfl) (fun y hy => w2 y (by revert hy; revert y; decide) (by revert hy; revert y; decide)), ?_⟩⟩
  · have hC := c2 tr htr
    by_cases h1 : tr.1 = 1579
    · have : tr = (1579, 0, 1) := (show ∀ tr, tr ∈ rf_RF → tr.1 = 1579 → tr = (1579, 0, 1) from by decide) tr htr h1
      subst this
      show 0 ≤ ((uf (uf (uf r 1579 1) 1581 10) 1580 (r.1 1536)).1 1579).toInt ∧ ((uf (uf (uf r 1579 1) 1581 10) 1580 (r.1 1536)).1 1579).toInt ≤ 1
      rw [v79]; decide
    · by_cases h2 : tr.1 = 1580
      · have : tr = (1580, 0, 2000) := (show ∀ tr, tr ∈ rf_RF → tr.1 = 1580 → tr = (1580, 0, 2000) from by decide) tr htr h2
        subst this
        show 0 ≤ ((uf (uf (uf r 1579 1) 1581 10) 1580 (r.1 1536)).1 1580).toInt ∧ ((uf (uf (uf r 1579 1) 1581 10) 1580 (r.1 1536)).1 1580).toInt ≤ 2000
        rw [v80]; exact k36
      · have h3 : tr.1 ≠ 1581 := (show ∀ tr, tr ∈ rf_RF → tr.1 ≠ 1581 from by decide) tr htr
        rw [w _ h1 h3 h2]; exact hC
  · unfold rf_C9 at c9 ⊢
    rw [v81, v80, w 1536 (by decide) (by decide) (by decide)]
    exact ⟨fun _ => by decide, Int.le_refl _⟩
  · unfold rf_C12 at c12 ⊢
    rw [v79, v80, w 1551 (by decide) (by decide) (by decide), w 1606 (by decide) (by decide) (by decide), w 1559 (by decide) (by decide) (by decide), w 1536 (by decide) (by decide) (by decide), w 1554 (by decide) (by decide) (by decide), w 1561 (by decide) (by decide) (by decide), if_neg (show ¬ (1 : Int32) = 0 by decide)]
    rw [hc, if_pos rfl] at c12
    have e2 : (uf (uf (uf r 1579 1) 1581 10) 1580 (r.1 1536)).2 = r.2 := rfl
    rw [e2]
    omega
  · have hC := c2 tr htr
    by_cases h1 : tr.1 = 1579
    · have : tr = (1579, 0, 1) := (show ∀ tr, tr ∈ rf_RF → tr.1 = 1579 → tr = (1579, 0, 1) from by decide) tr htr h1
      subst this
      show 0 ≤ ((uf (uf r 1579 1) 1581 10).1 1579).toInt ∧ ((uf (uf r 1579 1) 1581 10).1 1579).toInt ≤ 1
      rw [u79]; decide
    · have h3 : tr.1 ≠ 1581 := (show ∀ tr, tr ∈ rf_RF → tr.1 ≠ 1581 from by decide) tr htr
      rw [w2 _ h1 h3]; exact hC
  · unfold rf_C9 at c9 ⊢
    rw [u81, w2 1536 (by decide) (by decide), w2 1580 (by decide) (by decide)]
    exact ⟨fun _ => by decide, c92⟩
  · unfold rf_C12 at c12 ⊢
    rw [u79, w2 1580 (by decide) (by decide), w2 1551 (by decide) (by decide), w2 1606 (by decide) (by decide), w2 1559 (by decide) (by decide), w2 1536 (by decide) (by decide), w2 1554 (by decide) (by decide), w2 1561 (by decide) (by decide), if_neg (show ¬ (1 : Int32) = 0 by decide)]
    rw [hc, if_pos rfl] at c12
    have e2 : (uf (uf r 1579 1) 1581 10).2 = r.2 := rfl
    rw [e2]
    omega
theorem kP_hello (h : kP r) (hc : r.1 1579 = 0 ∨ r.1 1579 = 1) : kP (qF_saysHello r) := by
  rw [q_hello r hc]
  exact kP_fr (q_putsF (by decide)) (by decide) (by decide) (kP_ua (kP_uf h (by decide)) (by decide))
theorem ri_ck (I : rf_I t s q z r.1 r.2) : r.1 1579 = 0 ∨ r.1 1579 = 1 := by
  have b := ri_F I (g := 1579) (lo := 0) (hi := 1) (by decide)
  rcases (show (r.1 1579).toInt = 0 ∨ (r.1 1579).toInt = 1 by omega) with e | e
  · exact Or.inl (Int32.toInt_inj.mp e)
  · exact Or.inr (Int32.toInt_inj.mp e)
theorem c_hear92 {m : Nat} {x2 : Int32} (h2 : ¬ z_fi M 512 m = 2) (h6 : z_fr M 516 m = none) : cF_X1_hear_92 (n + 31) (some m) x2 M = M := by
  have hB := cE_X1_hear_92 (n + 31) (some m) x2 M
  replace hB := hB.trans (q_ste (b := m) rfl)
  rw [if_neg h2] at hB
  exact hB.trans (q_opn h6)
/-- a message is heard at the client: hello, established or closing -/
theorem j_hearC (J : JJ n M r TL CL) (h : kI t s q z r) {m k : Nat} (hk : k < 3600) (hm : j_mC n M r m k) (hcs : r.1 1577 = 1 ∨ r.1 1577 = 2 ∨ r.1 1577 = 3) (hA : r.2 57 k = 6 → r.1 1577 = 1 → r.2 91 0 = 0 → (r.1 1536).toInt - (r.1 1580).toInt ≤ 140) (hT : r.2 57 k = 7 → jN (r.2 58 k) < 3600 ∧ kTld r (jN (r.2 58 k))) (hM : r.1 1577 = 2 ∨ r.1 1577 = 3 → ¬ r.2 91 0 = 0) : JJ n (cF_X1_hear (n + 31) (some m) M) (qF_arrivesAtClient (nI k) r) TL CL ∧ kI t s q z (qF_arrivesAtClient (nI k) r) := by
  obtain ⟨m0, m1, m3, m4, mk⟩ := hm
  have b59 := ri_A h.1 (x := 59) (lo := 0) (hi := 1) (by decide) k
  have n59 := jN_toInt b59.1
  have i59 := jI_jN b59.1
  have b58 := ri_A h.1 (x := 58) (lo := 0) (hi := 3599) (by decide) k
  have i58 := jI_jN b58.1
  have hB := cE_X1_hear (n + 31) (some m) M
  rw [js_135_31 J] at hB
  have h13 : ∀ t0 : Int32, cF_X1_hear_13 (n + 31) (some m) t0 M = _ := fun t0 => (cE_X1_hear_13 (n + 31) (some m) t0 M).trans (q_ste (b := m) rfl)
  rcases mk with ⟨k1, k2, k3⟩ | ⟨k1, k2, k3, k4⟩ | ⟨k1, k2, k3, b, k4, k5⟩ | ⟨k1, k2, k3⟩ | ⟨k1, k2, k3⟩
  · -- COOKIE
    rw [q_arr5 hk k1]
    by_cases c1 : r.1 1577 = 1
    · rw [if_pos c1, h13, k2, if_neg (by decide), if_neg (by decide), if_pos rfl, if_neg (by decide), js_137_31 J] at hB
      by_cases c2 : r.1 1579 = 0
      · rw [if_pos c2] at hB
        rw [if_pos ⟨c1, c2⟩, hB]
        obtain ⟨I1, I2⟩ := rI_cook h.1 c2
        have J1 := J.sf (M1 := z_sfi M 137 (n + 31) 1) (j := 1579) rfl (by decide)
        have J2 := J1.wait (v := 10) (show ¬ r.1 1577 = 0 by rw [c1]; decide)
        refine ⟨JJ.st (fun M27 e27 => JJ.st (fun M28 e28 => JJ.st (fun M29 e29 => ?_))), ?_, ?_⟩
        · rw [← e27, ← e28] at J2
          rw [e29]
          exact j_sayHello J2 (t := t) (s := s + 1) (q := q + 1) (z := z) I1 (Or.inr rfl)
        · exact (rI_saysHello J.1 I2).1
        · exact kP_hello (kP_uf (kP_uf h.2 (by decide)) (by decide)) (Or.inr rfl)
      · rw [if_neg c2, c_hear92 (by rw [k2]; decide) k3] at hB
        rw [if_neg (fun hh => c2 hh.2), hB]
        exact ⟨J, h⟩
    · rw [if_neg c1, h13, k2, if_neg (by decide), if_neg (by decide), if_pos rfl, if_pos rfl, c_hear92 (by rw [k2]; decide) k3] at hB
      rw [if_neg (fun hh => c1 hh.1), hB]
      exact ⟨J, h⟩
  · -- ACCEPT
    rw [q_arr6 hk k1]
    by_cases c1 : r.1 1577 = 1
    · rw [if_pos c1, h13, k2, if_neg (by decide), if_neg (by decide), if_neg (by decide)] at hB
      have hC := cE_X1_hear_92 (n + 31) (some m) 1 M
      replace hC := hC.trans (q_ste (b := m) rfl)
      rw [k2, if_pos rfl, if_neg (by decide)] at hC
      replace hC := hC.trans (q_ste rfl)
      rw [if_pos c1, hB, hC]
      obtain ⟨z1, z2, -, -, -⟩ := j_hearAccept (x := z_fi M 519 m) (y := if r.2 58 k = 1 then 1 else 0) J (by rw [c1]; decide) h (by
        rw [k4]
        by_cases c : r.2 58 k = 1
        · rw [if_pos c]; exact ⟨fun hh => absurd c hh, fun hh => absurd hh (by decide)⟩
        · rw [if_neg c]; exact ⟨fun _ => rfl, fun _ => c⟩) (fun hz => hA k1 c1 hz)
      exact ⟨z1, z2⟩
    · rw [if_neg c1, h13, k2, if_neg (by decide), if_neg (by decide), if_neg (by decide)] at hB
      have hC := cE_X1_hear_92 (n + 31) (some m) 0 M
      replace hC := hC.trans (q_ste (b := m) rfl)
      rw [k2, if_pos rfl, if_pos rfl] at hC
      replace hC := hC.trans (q_opn k3)
      rw [if_neg c1, hB, hC]
      exact ⟨J, h⟩
  · -- ACK
    rw [q_arr7 hk k1]
    have h92 : ∀ x2 : Int32, cF_X1_hear_92 (n + 31) (some m) x2 M = (if x2 = 0 then cF_X1_hearAck (n + 31) (some b) M else M) := fun x2 => by
      have hC := cE_X1_hear_92 (n + 31) (some m) x2 M
      replace hC := hC.trans (q_ste (b := m) rfl)
      rw [k2, if_neg (by decide)] at hC
      replace hC := hC.trans (q_ops k4)
      by_cases c : x2 = 0
      · rw [if_pos c, k4] at hC
        rw [if_pos c]; exact hC.trans (q_ste rfl)
      · rw [if_neg c] at hC ⊢; exact hC
    by_cases c1 : r.1 1577 = 1
    · rw [if_pos c1, h13, k2, if_neg (by decide), if_neg (by decide), if_neg (by decide), h92, if_neg (by decide)] at hB
      rw [if_neg (fun hh => by
        rcases hh with hh | hh
        · rw [c1] at hh; exact absurd hh (by decide)
        · rw [c1] at hh; exact absurd hh (by decide)), hB]
      exact ⟨J, h⟩
    · rw [if_neg c1, h13, k2, if_neg (by decide), if_neg (by decide), if_neg (by decide), h92, if_pos rfl] at hB
      have c23 : r.1 1577 = 2 ∨ r.1 1577 = 3 := by
        rcases hcs with hh | hh
        · exact absurd hh c1
        · exact hh
      rw [if_pos c23, hB]
      obtain ⟨T1, T2⟩ := hT k1
      rw [← i58]
      obtain ⟨z1, z2, -, -⟩ := j_hearAck T1 J h k5 T2 (hM c23)
      exact ⟨z1, z2⟩
  · -- RESPONSE
    rw [q_arr8 hk k1]
    have hB2 : cF_X1_hear (n + 31) (some m) M = z_sfi M 898 (n + (32 + 3 * jN (r.2 59 k))) 1 := by
      have hr : ∀ t0 : Int32, cF_X1_hear_13 (n + 31) (some m) t0 M = z_sfi M 898 (n + (32 + 3 * jN (r.2 59 k))) 1 := fun t0 => by
        have hC := h13 t0
        rw [k2, if_neg (by decide), if_pos rfl, m3, cE_X1_routeOf, s_130_31 J.1, s_131_31 J.1] at hC
        rcases (show jN (r.2 59 k) = 0 ∨ jN (r.2 59 k) = 1 by omega) with e | e
        · rw [← i59, e, if_pos (show nI 0 = (0 : Int32) from rfl)] at hC
          rw [e]
          exact hC.trans ((q_ste2 rfl).trans ((q_ste (b := n + 32) rfl).trans (q_ste rfl)))
        · rw [← i59, e, if_neg (by decide)] at hC
          rw [e]
          exact hC.trans ((q_ste2 rfl).trans ((q_ste (b := n + 35) rfl).trans (q_ste rfl)))
      rw [hB]
      split
      · exact hr 1
      · exact hr 0
    rw [if_neg (fun hh => by
      rcases hcs with e | e | e <;> rw [e] at hh <;> exact absurd hh (by decide)), hB2]
    refine ⟨?_, ⟨rI_a h.1 (by decide), kP_ua h.2 (by decide)⟩⟩
    rcases (show jN (r.2 59 k) = 0 ∨ jN (r.2 59 k) = 1 by omega) with e | e
    · rw [e]; exact J.sa (x := 92) (j := 0) rfl (by decide) (by decide)
    · rw [e]; exact J.sa (x := 92) (j := 1) rfl (by decide) (by decide)
  · -- RESET
    rw [q_arr9 hk k1]
    have hB2 : cF_X1_hear (n + 31) (some m) M = z_sfi M 135 (n + 31) 5 := by
      have hr : ∀ t0 : Int32, cF_X1_hear_13 (n + 31) (some m) t0 M = z_sfi M 135 (n + 31) 5 := fun t0 => by
        have hC := h13 t0
        rw [k2, if_pos rfl] at hC
        exact hC.trans (q_ste rfl)
      rw [hB]
      split
      · exact hr 1
      · exact hr 0
    rw [if_neg (fun hh => by rcases hcs with e | e | e <;> rw [e] at hh <;> exact absurd hh (by decide)), hB2]
    exact ⟨J.state (by decide) (by decide) (by rcases hcs with e | e | e <;> rw [e] <;> decide) rfl, kI_1577 h (by decide)⟩
/-- nothing is heard, closed or reset -/
theorem q_arrN {k : Nat} (hk : k < 3600) (hs : r.2 57 k = 5 ∨ r.2 57 k = 6 ∨ r.2 57 k = 7 ∨ r.2 57 k = 8 ∨ r.2 57 k = 9) (hcs : r.1 1577 = 4 ∨ r.1 1577 = 5) : qF_arrivesAtClient (nI k) r = r := by
  have c1 : ¬ r.1 1577 = 1 := fun e => by rcases hcs with h | h <;> rw [h] at e <;> exact absurd e (by decide)
  have c2 : ¬ (r.1 1577 = 2 ∨ r.1 1577 = 3) := fun e => by rcases hcs with h | h <;> rw [h] at e <;> exact absurd e (by decide)
  rcases hs with e | e | e | e | e
  · rw [q_arr5 hk e, if_neg (fun h => c1 h.1)]
  · rw [q_arr6 hk e, if_neg c1]
  · rw [q_arr7 hk e, if_neg c2]
  · rw [q_arr8 hk e, if_pos hcs]
  · rw [q_arr9 hk e]
    rcases hcs with h | h
    · rw [if_pos h]
    · rw [if_neg (by rw [h]; decide)]; exact uf_id h
end JHC2
