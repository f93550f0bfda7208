/-! ===== THE LIKENESS: what the time brings, whole ===== -/
section JLM
variable {n : Nat} {M M0 M1 M2 M3 : z_Mem} {r r1 r2 : q_R} {TL CL : List Nat} {t s q z : Nat}
/-- a tick's end -/
noncomputable def q_end (r : q_R) : q_R := qF_leaves 1 (qF_leaves 0 (qF_sendsAll r))
theorem q_235 : qF_passes_235 r = q_end r := by
  have hQ := qE_passes_235 r
  replace hQ := hQ.trans (q_ste (b := r) (uf_id rfl).symm)
  exact hQ.trans ((q_ste rfl).trans ((q_ste rfl).trans (q_ste rfl)))
theorem rI_re (I : rf_I t s q z r.1 r.2) (hs : r.1 1577 = 1) (hw : (r.1 1580).toInt + (r.1 1581).toInt ≤ (r.1 1536).toInt) : rf_I (t + 1) (s + 1) (q + 1) z (uf (uf r 1581 (r.1 1581 * 2)) 1580 (r.1 1536)).1 (uf (uf r 1581 (r.1 1581 * 2)) 1580 (r.1 1536)).2 ∧ rf_I t s q z (uf r 1581 (r.1 1581 * 2)).1 (uf r 1581 (r.1 1581 * 2)).2 ∧ (r.1 1581 * 2).toInt = (r.1 1581).toInt * 2 := by
  obtain ⟨c1, c2, c3, c4, c5, c6, c7, c8, c9, c10, c11, c12⟩ := I
  have k36 := c2 (1536, 0, 2000) (by decide)
  have k80 := c2 (1580, 0, 2000) (by decide)
  dsimp only at k36 k80
  obtain ⟨c91, c92⟩ := c9
  have c91 := c91 hs
  have tv : (r.1 1581 * 2).toInt = (r.1 1581).toInt * 2 := i_mulE rfl (show (2 : Int32).toInt = 2 from rfl) (by omega) (by omega)
  have w : ∀ k, k ≠ 1581 → k ≠ 1580 → (uf (uf r 1581 (r.1 1581 * 2)) 1580 (r.1 1536)).1 k = r.1 k := fun k h2 h3 => by rw [uf_n h3, uf_n h2]
  have w2 : ∀ k, k ≠ 1581 → (uf r 1581 (r.1 1581 * 2)).1 k = r.1 k := fun k h2 => uf_n h2
  have v81 : (uf (uf r 1581 (r.1 1581 * 2)) 1580 (r.1 1536)).1 1581 = r.1 1581 * 2 := by rw [uf_n (by decide), uf_e]
  have v80 : (uf (uf r 1581 (r.1 1581 * 2)) 1580 (r.1 1536)).1 1580 = r.1 1536 := uf_e
  have u81 : (uf r 1581 (r.1 1581 * 2)).1 1581 = r.1 1581 * 2 := uf_e
  refine ⟨⟨c1, fun tr htr => ?_, c3, c4.congr (fun _ _ => rfl) (fun y hy => w y (by revert hy; revert y; decide) (by revert hy; revert y; decide)), c5, c6.congr (fun _ _ => rfl) (fun y hy => w y (by revert hy; revert y; decide) (by revert hy; revert y; decide)), c7, c8.congr (fun _ _ => rfl) (fun y hy => w y (by revert hy; revert y; decide) (by revert hy; revert y; decide)), ?_, c10, c11.congr (fun _ _ => rfl) (fun y hy => w y (by revert hy; revert y; decide) (by revert hy; revert y; decide)), ?_⟩, ⟨c1, fun tr htr => ?_, c3, c4.congr (fun _ _ => rfl) (fun y hy => w2 y (by revert hy; revert y; decide)), c5, c6.congr (fun _ _ => rfl) (fun y hy => w2 y (by revert hy; revert y; decide)), c7, c8.congr (fun _ _ => rfl) (fun y hy => w2 y (by revert hy; revert y; decide)), ?_, c10, c11.congr (fun _ _ => rfl) (fun y hy => w2 y (by revert hy; revert y; decide)), c12.congr (fun _ _ => rfl) (fun y hy => w2 y (by revert hy; revert y; decide))⟩, tv⟩
  · have hC := c2 tr htr
    by_cases h2 : tr.1 = 1580
    · have : tr = (1580, 0, 2000) := (show ∀ tr, tr ∈ rf_RF → tr.1 = 1580 → tr = (1580, 0, 2000) from by decide) tr htr h2
      subst this
      show 0 ≤ ((uf (uf r 1581 (r.1 1581 * 2)) 1580 (r.1 1536)).1 1580).toInt ∧ ((uf (uf r 1581 (r.1 1581 * 2)) 1580 (r.1 1536)).1 1580).toInt ≤ 2000
      rw [v80]; exact k36
    · have h3 : tr.1 ≠ 1581 := (show ∀ tr, tr ∈ rf_RF → tr.1 ≠ 1581 from by decide) tr htr
      rw [w _ h3 h2]; exact hC
  · unfold rf_C9
    rw [v81, v80, w 1536 (by decide) (by decide)]
    exact ⟨fun _ => by rw [tv]; omega, Int.le_refl _⟩
  · unfold rf_C12 at c12 ⊢
    rw [v80, w 1579 (by decide) (by decide), w 1551 (by decide) (by decide), w 1606 (by decide) (by decide), w 1559 (by decide) (by decide), w 1536 (by decide) (by decide), w 1554 (by decide) (by decide), w 1561 (by decide) (by decide)]
    have e2 : (uf (uf r 1581 (r.1 1581 * 2)) 1580 (r.1 1536)).2 = r.2 := rfl
    rw [e2]
    omega
  · have hC := c2 tr htr
    have h3 : tr.1 ≠ 1581 := (show ∀ tr, tr ∈ rf_RF → tr.1 ≠ 1581 from by decide) tr htr
    rw [w2 _ h3]; exact hC
  · unfold rf_C9
    rw [u81, w2 1536 (by decide), w2 1580 (by decide)]
    exact ⟨fun _ => by rw [tv]; omega, c92⟩
/-- the properties that looking after keeps -/
def kLk (t s q z : Nat) (Ph : q_R → Prop) : Prop := kSt t s q z Ph ∧ (∀ r r1, kF r r1 → Ph r → Ph r1) ∧ (∀ r, r.1 1577 = 1 → (r.1 1580).toInt + (r.1 1581).toInt ≤ (r.1 1536).toInt → kI t s q z r → Ph r → Ph (qF_saysHello (uf r 1581 (r.1 1581 * 2)))) ∧ (∀ r, r.1 1577 = 3 → Ph r → Ph (uf r 1577 4)) ∧ (∀ r, Ph r → r.1 1577 = 3 → 0 ≤ (r.1 1582).toInt ∧ (r.1 1582).toInt ≤ 2000)
theorem j_l94 {Ph : q_R → Prop} (hK : kLk t s q z Ph) (J : JJ n M r TL CL) (h : kI t s q z r) (ph : Ph r) : ∃ r', JJ n (cF_X1_lookAfter_94 (n + 31) M) r' TL CL ∧ kI t s q z r' ∧ Ph r' ∧ qF_passes_208 r = q_end r' := by
  have hB := cE_X1_lookAfter_94 (n + 31) M
  have hQ := qE_passes_208 r
  rw [js_135_31 J] at hB
  rw [q_235] at hQ
  by_cases c : r.1 1577 = 3
  · rw [if_pos c] at hB hQ
    replace hB := hB.trans (q_ste (b := n + 1) (by rw [s_128_31 J.1]; rfl))
    have h141 : z_fi M 141 (n + 31) = r.1 1582 + 30 := J.2.2.2.1.2.1 c
    rw [js_645_1 J, h141] at hB
    have b82 := hK.2.2.2.2 r ph c
    have bn := ri_now h.1
    have e1 : (r.1 1582 + 30).toInt = (r.1 1582).toInt + 30 := i_addE rfl (show (30 : Int32).toInt = 30 from rfl) (by omega) (by omega)
    have e2 : (r.1 1536 - r.1 1582).toInt = (r.1 1536).toInt - (r.1 1582).toInt := i_subE rfl rfl (by omega) (by omega)
    by_cases c2 : r.1 1536 < r.1 1582 + 30
    · rw [if_pos c2] at hB
      rw [Int32.lt_iff_toInt_lt, e1] at c2
      rw [if_pos (by rw [Int32.lt_iff_toInt_lt, e2, show (30 : Int32).toInt = 30 from rfl]; omega)] at hQ
      rw [hB]
      exact ⟨r, J, h, ph, hQ⟩
    · rw [if_neg c2] at hB
      rw [Int32.lt_iff_toInt_lt, e1] at c2
      rw [if_neg (by rw [Int32.lt_iff_toInt_lt, e2, show (30 : Int32).toInt = 30 from rfl]; omega)] at hQ
      replace hB := hB.trans (q_ste rfl)
      rw [hB]
      refine ⟨uf r 1577 4, J.state (by decide) (by decide) (by rw [c]; decide) rfl, kI_1577 h (by decide), hK.2.2.2.1 r c ph, ?_⟩
      exact hQ.trans ((q_ste rfl).trans ((q_ste rfl).trans ((q_ste rfl).trans (q_ste rfl))))
  · rw [if_neg c] at hB hQ
    rw [hB]
    exact ⟨r, J, h, ph, hQ⟩
theorem j_l50 {Ph : q_R → Prop} (hK : kLk t s q z Ph) (J : JJ n M r TL CL) (h : kI t s q z r) (ph : Ph r) : ∃ r', JJ n (cF_X1_lookAfter_50 (n + 31) M) r' TL CL ∧ kI t s q z r' ∧ Ph r' ∧ qF_passes_170 r = q_end r' := by
  have hB := cE_X1_lookAfter_50 (n + 31) M
  have hQ := qE_passes_170 r
  rw [js_135_31 J] at hB
  obtain ⟨r', z1, z2, z3, z4⟩ := j_l94 hK J h ph
  by_cases c : r.1 1577 = 1
  · rw [if_pos c] at hB hQ
    replace hB := hB.trans (q_ste (b := n + 1) (by rw [s_128_31 J.1]; rfl))
    rw [js_645_1 J, js_139_31 J, js_140_31 J (by rw [c]; decide)] at hB
    by_cases c2 : r.1 1536 - r.1 1580 < r.1 1581
    · rw [if_pos c2] at hB hQ
      rw [hB, hQ]
      exact ⟨r', z1, z2, z3, z4⟩
    · rw [if_neg c2] at hB hQ
      have bn := ri_now h.1
      have b80 := ri_F h.1 (g := 1580) (lo := 0) (hi := 2000) (by decide)
      rw [Int32.lt_iff_toInt_lt, i_subE rfl rfl (by omega) (by omega)] at c2
      have hw : (r.1 1580).toInt + (r.1 1581).toInt ≤ (r.1 1536).toInt := by omega
      obtain ⟨I1, I2, tv⟩ := rI_re h.1 c hw
      have J1 := J.wait (v := r.1 1581 * 2) (show ¬ r.1 1577 = 0 by rw [c]; decide)
      replace hB := hB.trans (q_ste (b := z_sfi M 140 (n + 31) (r.1 1581 * 2)) rfl)
      replace hB := hB.trans (q_ste rfl)
      have ck : (uf r 1581 (r.1 1581 * 2)).1 1579 = 0 ∨ (uf r 1581 (r.1 1581 * 2)).1 1579 = 1 := by
        rw [uf_n (by decide)]; exact ri_ck h.1
      have J2 := j_sayHello J1 (t := t) (s := s + 1) (q := q + 1) (z := z) I1 ck
      have c9 := h.1.2.2.2.2.2.2.2.2.1.1 c
      have h2 : kI t s q z (qF_saysHello (uf r 1581 (r.1 1581 * 2))) := ⟨(rI_saysHellot J.1 I2 (by rw [uf_n (by decide), uf_n (by decide)]; omega)).1, kP_hello (kP_uf h.2 (by decide)) ck⟩
      have p2 := hK.2.2.1 r c hw h ph
      have s2 : (qF_saysHello (uf r 1581 (r.1 1581 * 2))).1 1577 = 1 := by
        rw [q_hello _ ck, (q_putsF (by decide)).1 1577 (by decide)]
        exact c
      replace hQ := hQ.trans (q_ste (b := uf r 1581 (r.1 1581 * 2)) rfl)
      replace hQ := hQ.trans (q_ste (b := qF_saysHello (uf r 1581 (r.1 1581 * 2))) rfl)
      have h208 := qE_passes_208 (qF_saysHello (uf r 1581 (r.1 1581 * 2)))
      rw [if_neg (by rw [s2]; decide), q_235] at h208
      rw [hB]
      exact ⟨_, J2, h2, p2, hQ.trans h208⟩
  · rw [if_neg c] at hB hQ
    rw [hB, hQ]
    exact ⟨r', z1, z2, z3, z4⟩
theorem j_look {Ph : q_R → Prop} (hK : kLk t s q z Ph) (J : JJ n M r TL CL) (h : kI t s q z r) (ph : Ph r) : ∃ r', JJ n (cF_X1_lookAfter (n + 31) M) r' TL CL ∧ kI t s q z r' ∧ Ph r' ∧ qF_passes_134 r = q_end r' := by
  have h16 : ∃ r', JJ n (cF_X1_lookAfter_16 (n + 31) M) r' TL CL ∧ kI t s q z r' ∧ Ph r' ∧ qF_passes_150 r = q_end r' := by
    have hB := cE_X1_lookAfter_16 (n + 31) M
    have hQ := qE_passes_150 r
    rw [s_130_31 J.1] at hB
    obtain ⟨J1, h1, F1⟩ := j_findT J h
    have p1 := hK.2.1 _ _ F1 ph
    replace hB := hB.trans (q_ste rfl)
    replace hQ := hQ.trans (q_ste rfl)
    generalize cF_X1_findLosses (n + 31) (some (n + 32)) 0 M = W1 at hB J1
    generalize qF_losesByTime 0 r = R1 at hQ J1 h1 F1 p1
    rw [s_131_31 J1.1] at hB
    have J2 := j_findL1 (x2 := 0) J1 h1
    replace hB := hB.trans (q_ste rfl)
    rw [q_byT1 h1] at hQ
    replace hQ := hQ.trans (q_ste (b := R1) rfl)
    generalize cF_X1_findLosses (n + 31) (some (n + 35)) 0 W1 = W2 at hB J2
    rw [s_130_31 J2.1] at hB
    obtain ⟨J3, h3, p3⟩ := j_probe0 hK.1 J2 h1 p1
    replace hB := hB.trans (q_ste rfl)
    replace hQ := hQ.trans (q_ste rfl)
    generalize cF_X1_probeInTime (n + 31) (some (n + 32)) W2 = W3 at hB J3
    generalize qF_probesOn 0 R1 = R3 at hQ J3 h3 p3
    rw [s_131_31 J3.1] at hB
    have J4 := j_probe1 J3 h3
    replace hB := hB.trans (q_ste rfl)
    rw [q_pr1 h3] at hQ
    replace hQ := hQ.trans (q_ste (b := R3) rfl)
    obtain ⟨r', z1, z2, z3, z4⟩ := j_l50 hK J4 h3 p3
    rw [hB]
    exact ⟨r', z1, z2, z3, hQ.trans z4⟩
  have hB := cE_X1_lookAfter (n + 31) M
  have hQ := qE_passes_134 r
  rw [js_135_31 J] at hB
  by_cases c : r.1 1577 = 1
  · rw [if_pos c] at hB hQ
    rw [hB, hQ]; exact h16
  · rw [if_neg c] at hB hQ
    by_cases c2 : r.1 1577 = 2
    · rw [if_pos c2] at hB hQ
      rw [hB, hQ]; exact h16
    · rw [if_neg c2] at hB hQ
      rw [hB, hQ]; exact j_l50 hK J h ph
end JLM
