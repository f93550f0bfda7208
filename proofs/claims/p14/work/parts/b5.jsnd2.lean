/-! ===== THE LIKENESS: a packet is sent: what stays true ===== -/
section JSE
variable {n : Nat} {M M0 M1 M2 M3 : z_Mem} {r r1 r2 : q_R} {TL CL : List Nat} {t s q z : Nat}
/-- what sending does to cells, read off -/
theorem q_snF {P sN a m : Nat} {b : Int32} : (∀ g, g ≠ 1606 → (q_sn P sN a m b r).1 g = r.1 g) ∧ (q_sn P sN a m b r).1 1606 = nI (P + 1) ∧ (∀ x, x ∉ [70, 71, 72, 73, 74, 75, 78, 79, 80, 82, 83, 93, 95] → (q_sn P sN a m b r).2 x = r.2 x) ∧ (∀ x j, x ≠ 93 → x ≠ 95 → x ≠ 70 → j ≠ P → (q_sn P sN a m b r).2 x j = r.2 x j) ∧ (q_sn P sN a m b r).2 70 = rO (r.2 70) (200 * sN + a) m 1 := by
  unfold q_sn
  refine ⟨fun g hg => ?_, uf_e, fun x hx => ?_, fun x j h1 h2 h3 hj => ?_, ?_⟩
  · rw [uf_n hg]; rfl
  · simp only [List.mem_cons, List.not_mem_nil, or_false, not_or] at hx
    show (uA _ 70 _).2 x = r.2 x
    rw [uA_n hx.1, q_chn (by simp only [List.mem_cons, List.not_mem_nil, or_false, not_or]; exact hx.2)]
  · show (uA _ 70 _).2 x j = r.2 x j
    rw [uA_n h3, q_chj h1 h2 hj]
  · rw [uf2, uA_e]
theorem q_snP {P sN a m : Nat} {b : Int32} : (q_sn P sN a m b r).2 71 P = 0 ∧ (q_sn P sN a m b r).2 72 P = r.1 1536 ∧ (q_sn P sN a m b r).2 73 P = nI sN ∧ (q_sn P sN a m b r).2 74 P = nI a ∧ (q_sn P sN a m b r).2 75 P = nI m ∧ (q_sn P sN a m b r).2 78 P = r.1 1584 ∧ (q_sn P sN a m b r).2 82 P = r.2 93 0 ∧ (q_sn P sN a m b r).2 83 P = r.2 97 0 ∧ (q_sn P sN a m b r).2 93 0 = r.2 93 0 + 1 := by
  have h : ∀ x, x ≠ 70 → (q_sn P sN a m b r).2 x = (q_ch P (r.1 1536) (nI sN) (nI a) (nI m) (r.1 1584) b (if r.1 1577 = 1 then 1 else 0) (r.2 93 0) (r.2 97 0) r).2 x := fun x hx => by
    unfold q_sn
    show (uA _ 70 _).2 x = _
    rw [uA_n hx]
  refine ⟨?_, ?_, ?_, ?_, ?_, ?_, ?_, ?_, ?_⟩
  · rw [h 71 (by decide)]; exact q_ch71
  · rw [h 72 (by decide)]; exact q_ch72
  · rw [h 73 (by decide)]; exact q_ch73
  · rw [h 74 (by decide)]; exact q_ch74
  · rw [h 75 (by decide)]; exact q_ch75
  · rw [h 78 (by decide)]; exact q_ch78
  · rw [h 82 (by decide)]; exact q_ch82
  · rw [h 83 (by decide)]; exact q_ch83
  · rw [h 93 (by decide)]; exact q_ch93
theorem rI_snd (I : rf_I t s q z r.1 r.2) {P sN a m : Nat} {b : Int32} (hP : r.1 1606 = nI P) (hP4 : P < 400) (hs : sN < 4) (ham : a + m ≤ 200) : rf_I (t + 1) (s + 1) (q + 1) z (q_sn P sN a m b r).1 (q_sn P sN a m b r).2 := by
  obtain ⟨f1, f2, f3, f4, f5⟩ := q_snF (r := r) (P := P) (sN := sN) (a := a) (m := m) (b := b)
  obtain ⟨g1, g2, g3, g4, g5, g6, g7, g8, g9⟩ := q_snP (r := r) (P := P) (sN := sN) (a := a) (m := m) (b := b)
  generalize q_sn P sN a m b r = R at f1 f2 f3 f4 f5 g1 g2 g3 g4 g5 g6 g7 g8 g9
  obtain ⟨c1, c2, c3, c4, c5, c6, c7, c8, c9, c10, c11, c12⟩ := I
  have k6 : (r.1 1606).toInt = P := by rw [hP, jI_t (by omega)]
  have k6' : (R.1 1606).toInt = P + 1 := by rw [f2, jI_t (by omega)]; rfl
  have b97 := c1 (97, 0, 400) (by decide) 0
  have bn := c2 (1536, 0, 2000) (by decide)
  dsimp only at b97 bn
  refine ⟨fun tr htr j => ?_, fun tr htr => ?_, c3.congr (fun x hx => f3 x (by revert hx; revert x; decide)), fun k => ?_, fun k => ?_, c6.congr (fun x hx => f3 x (by revert hx; revert x; decide)) (fun g hg => f1 g (by revert hg; revert g; decide)), c7.congr (fun x hx => f3 x (by revert hx; revert x; decide)), c8.congr (fun x hx => f3 x (by revert hx; revert x; decide)) (fun g hg => f1 g (by revert hg; revert g; decide)), c9.congr (fun g hg => f1 g (by revert hg; revert g; decide)), c10.congr (fun x hx => f3 x (by revert hx; revert x; decide)), c11.congr (fun x hx => f3 x (by revert hx; revert x; decide)) (fun g hg => f1 g (by revert hg; revert g; decide)), ?_⟩
  · have hC := c1 tr htr j
    have hR : ∀ tr, tr ∈ rf_RA → (tr = (71, 0, 1) ∨ tr = (73, 0, 3) ∨ tr = (74, 0, 200) ∨ tr = (75, 0, 200) ∨ tr = (83, 0, 400)) ∨ tr.1 ∉ [70, 71, 72, 73, 74, 75, 78, 79, 80, 82, 83, 93, 95] := by decide
    rcases hR tr htr with hx | hx
    · by_cases cj : j = P
      · rcases hx with rfl | rfl | rfl | rfl | rfl
        · show 0 ≤ (R.2 71 j).toInt ∧ (R.2 71 j).toInt ≤ 1
          rw [cj, g1]; decide
        · show 0 ≤ (R.2 73 j).toInt ∧ (R.2 73 j).toInt ≤ 3
          rw [cj, g3, jI_t (by omega)]; omega
        · show 0 ≤ (R.2 74 j).toInt ∧ (R.2 74 j).toInt ≤ 200
          rw [cj, g4, jI_t (by omega)]; omega
        · show 0 ≤ (R.2 75 j).toInt ∧ (R.2 75 j).toInt ≤ 200
          rw [cj, g5, jI_t (by omega)]; omega
        · show 0 ≤ (R.2 83 j).toInt ∧ (R.2 83 j).toInt ≤ 400
          rw [cj, g8]; exact b97
      · have hne : tr.1 ≠ 93 ∧ tr.1 ≠ 95 ∧ tr.1 ≠ 70 := by
          rcases hx with rfl | rfl | rfl | rfl | rfl <;> decide
        rw [f4 _ j hne.1 hne.2.1 hne.2.2 cj]; exact hC
    · rw [f3 _ hx]; exact hC
  · have hC := c2 tr htr
    by_cases h6 : tr.1 = 1606
    · have : tr = (1606, 0, 400) := (show ∀ tr, tr ∈ rf_RF → tr.1 = 1606 → tr = (1606, 0, 400) from by decide) tr htr h6
      subst this
      show 0 ≤ (R.1 1606).toInt ∧ (R.1 1606).toInt ≤ 400
      rw [k6']; omega
    · rw [f1 _ h6]; exact hC
  · rw [f1 1536 (by decide)]
    by_cases cj : k = P
    · rw [cj, g2]; omega
    · rw [f4 72 k (by decide) (by decide) (by decide) cj]; exact c4 k
  · by_cases cj : k = P
    · rw [cj, g4, g5, jI_t (by omega), jI_t (by omega)]; omega
    · rw [f4 74 k (by decide) (by decide) (by decide) cj, f4 75 k (by decide) (by decide) (by decide) cj]; exact c5 k
  · unfold rf_C12 at c12 ⊢
    rw [f1 1551 (by decide), f1 1579 (by decide), f1 1580 (by decide), f1 1559 (by decide), f1 1536 (by decide), f1 1561 (by decide), f1 1554 (by decide), f3 56 (by decide), k6']
    rw [k6] at c12
    omega
theorem kP_snd (h : kP r) (I : rf_I t s q z r.1 r.2) {P sN a m : Nat} {b : Int32} (hP : r.1 1606 = nI P) (hP4 : P < 400) (hs : sN < 4) (ham : a + m ≤ 200) (h67 : (a + m : Nat) ≤ (r.2 67 sN).toInt) : kP (q_sn P sN a m b r) := by
  obtain ⟨f1, f2, f3, f4, f5⟩ := q_snF (r := r) (P := P) (sN := sN) (a := a) (m := m) (b := b)
  obtain ⟨g1, g2, g3, g4, g5, g6, g7, g8, g9⟩ := q_snP (r := r) (P := P) (sN := sN) (a := a) (m := m) (b := b)
  generalize q_sn P sN a m b r = R at f1 f2 f3 f4 f5 g1 g2 g3 g4 g5 g6 g7 g8 g9
  obtain ⟨⟨a1, a2, a3, a4, a5, a6⟩, ⟨b1, b2, b3, b4⟩, ⟨c1, c2, c3⟩, d⟩ := h
  have pN : jN (r.1 1606) = P := by rw [hP]; exact jN_nI (by omega)
  have pN1 : jN (R.1 1606) = P + 1 := by rw [f2]; exact jN_nI (by omega)
  have f4' : ∀ x, x ∈ [71, 72, 73, 74, 75, 78, 82, 83] → ∀ j, j ≠ P → R.2 x j = r.2 x j := fun x hx j hj => f4 x j (by revert hx; revert x; decide) (by revert hx; revert x; decide) (by revert hx; revert x; decide) hj
  refine ⟨⟨?_, ?_, fun i hi => ?_, fun i hi => ?_, fun i j hij hj => ?_, ?_⟩, ⟨fun i hi e => ?_, ?_, ?_, ?_⟩, ⟨fun s' j hs' hj => ?_, fun i hi => ?_, fun i s' hi hs' e => ?_⟩, kD_c (fun x hx => f3 x (by revert hx; revert x; decide)) d⟩
  · rw [f1 1583 (by decide)]; exact a1
  · rw [g9, a2, f2, hP, jI_1, jI_add (by omega)]
  · rw [pN1] at hi
    by_cases c : i = P
    · rw [c, g1, g7, a2, hP]; exact ⟨rfl, rfl⟩
    · rw [f4' 71 (by decide) i c, f4' 82 (by decide) i c]; exact a3 i (by omega)
  · rw [pN1] at hi
    rw [f3 76 (by decide), f3 81 (by decide)]; exact a4 i (by omega)
  · rw [pN1] at hj
    by_cases cj : j = P
    · rw [cj, g2]
      by_cases ci : i = P
      · rw [ci, g2]; exact Int.le_refl _
      · rw [f4' 72 (by decide) i ci]; exact (ri_72 I i).2
    · rw [f4' 72 (by decide) j cj, f4' 72 (by decide) i (by omega)]; exact a5 i j hij (by omega)
  · rw [f3 120 (by decide)]; exact a6
  · rw [pN1] at hi
    rw [f3 76 (by decide)] at e
    rw [f3 94 (by decide)]
    by_cases c : i = P
    · rw [c, (a4 P (by omega)).1] at e; exact absurd e (by decide)
    · exact b1 i (by omega) e
  · rw [f3 102 (by decide), f3 100 (by decide)]; exact b2
  · rw [f3 86 (by decide)]; exact b3
  · rw [f3 69 (by decide)]; exact b4
  · have ko : ∀ i, i < P → kcv R s' j i = kcv r s' j i := fun i hi => by
      unfold kcv
      rw [f3 76 (by decide), f4' 73 (by decide) i (by omega), f4' 74 (by decide) i (by omega), f4' 75 (by decide) i (by omega)]
    have kc : rf_c (kcv R s' j) (P + 1) = rf_c (kcv r s' j) P + (if kcv R s' j P = true then 1 else 0) := by
      show rf_c (kcv R s' j) P + (if kcv R s' j P = true then 1 else 0) = _
      rw [rf_c_eq _ ko]
    have c1' := c1 s' j hs' hj
    have hl := rf_c_le (p := kcv r s' j) P
    rw [pN] at c1'
    rw [pN1, kc, f5]
    unfold rO
    have kP' : kcv R s' j P = true ↔ (200 * sN + a ≤ 200 * s' + j ∧ 200 * s' + j < 200 * sN + a + m) := by
      rw [k_rg hs' hj hs ham]
      unfold kcv
      rw [f3 76 (by decide), (a4 P (by omega)).1, g3, g4, g5, jI_t (show a < 2147483648 by omega), jI_t (show m < 2147483648 by omega), decide_eq_true_eq]
      constructor
      · intro h
        exact ⟨(jI_inj (by omega) (by omega) h.2.1).symm, by omega, by omega⟩
      · intro h
        refine ⟨rfl, by rw [h.1], by omega, by omega⟩
    by_cases c : 200 * sN + a ≤ 200 * s' + j ∧ 200 * s' + j < 200 * sN + a + m
    · rw [if_pos c, if_pos (kP'.mpr c), c1', jI_1, jI_add (by omega)]
    · rw [if_neg c, if_neg (fun h => c (kP'.mp h)), c1']
      rfl
  · rw [f5]
    unfold rO
    rw [if_neg (by omega)]
    exact c2 i hi
  · rw [pN1] at hi
    rw [f3 67 (by decide)]
    by_cases c : i = P
    · rw [c, g3] at e
      have es := jI_inj (by omega) (by omega) e
      rw [c, g4, g5, jI_t (by omega), jI_t (by omega), ← es]; omega
    · rw [f4' 73 (by decide) i c] at e
      rw [f4' 74 (by decide) i c, f4' 75 (by decide) i c]
      exact c3 i s' (by omega) hs' e
/-- the put of a packet -/
theorem kP_putd (h : kP r) {i : Nat} (hi : i < jN (r.1 1606)) (hi4 : i < 400) : kP (qF_puts 0 2 (nI i) r) := by
  obtain ⟨r1, h1, h2⟩ := q_putsE2 (r := r) (p := 0) (i := nI i)
  rw [jI_N (by omega : i < 2147483648)] at h2
  have K1 : kP r1 := kP_fr (q_l46F h1) (by decide) (by decide) h
  have e6 : r1.1 1606 = r.1 1606 := (q_l46F h1).1 1606 (by decide)
  rcases h2 with h2 | ⟨v, h2, -⟩
  · rw [h2]; exact kP_ua K1 (by decide)
  · rw [h2]; exact kP_fr q_p111F (by decide) (by decide) (kP_81 K1 (by rw [e6]; exact hi))
theorem q_putdF {i : Nat} (hi4 : i < 400) : q_fr [1551] [46, 50, 51, 52, 53, 54, 77, 81] r (qF_puts 0 2 (nI i) r) := by
  obtain ⟨r1, h1, h2⟩ := q_putsE2 (r := r) (p := 0) (i := nI i)
  have F1 : q_fr [1551] [46, 50, 51, 52, 53, 54, 77, 81] r r1 := q_frw (q_l46F h1) (by decide) (by decide)
  rcases h2 with h2 | ⟨v, h2, -⟩
  · rw [h2]; exact q_frua (by decide) F1
  · rw [h2]; exact q_frt (q_frua (by decide) F1) (q_frw q_p111F (by decide) (by decide))
/-- all that sending writes -/
def kFS (r r1 : q_R) : Prop := q_fr [1606, 1551] [46, 50, 51, 52, 53, 54, 70, 71, 72, 73, 74, 75, 77, 78, 79, 80, 81, 82, 83, 93, 95] r r1
theorem kI_sends (S : y_S n M) (h : kI t s q z r) {P sN a m : Nat} {b : Int32} (hP : r.1 1606 = nI P) (hP4 : P < 400) (hs : sN < 4) (ham : a + m ≤ 200) (h67 : (a + m : Nat) ≤ (r.2 67 sN).toInt) : kI t s q z (qF_sends 0 (nI sN) (nI a) (nI m) b r) ∧ kFS r (qF_sends 0 (nI sN) (nI a) (nI m) b r) ∧ (qF_sends 0 (nI sN) (nI a) (nI m) b r).1 1606 = nI (P + 1) := by
  have I1 := (rI_sends (x5 := b) S h.1 (x1 := 0) (x2 := nI sN) (x3 := nI a) (x4 := nI m) (by decide) (by rw [jI_t (by omega)]; omega) (by rw [jI_t (by omega)]; omega) (by rw [jI_t (by omega)]; omega) (by rw [jI_t (by omega), jI_t (by omega)]; omega) (by rw [hP, jI_t (by omega)]; omega)).1
  obtain ⟨f1, f2, f3, f4, f5⟩ := q_snF (r := r) (P := P) (sN := sN) (a := a) (m := m) (b := b)
  have K1 := kP_snd (b := b) h.2 h.1 hP hP4 hs ham h67
  have Fp := q_putdF (r := q_sn P sN a m b r) (i := P) hP4
  rw [q_sendsE hP hP4 hs ham] at I1 ⊢
  refine ⟨⟨I1, kP_putd K1 (by rw [f2, jN_nI (by omega)]; exact Nat.lt_succ_self _) hP4⟩, ⟨fun g hg => ?_, fun x hx => ?_⟩, ?_⟩
  · simp only [List.mem_cons, List.not_mem_nil, or_false, not_or] at hg
    rw [Fp.1 g (by simp only [List.mem_cons, List.not_mem_nil, or_false]; exact hg.2), f1 g hg.1]
  · simp only [List.mem_cons, List.not_mem_nil, or_false, not_or] at hx
    obtain ⟨x1, x2, x3, x4, x5, x6, x7, x8, x9, x10, x11, x12, x13, x14, x15, x16, x17, x18, x19, x20, x21⟩ := hx
    rw [Fp.2 x (by simp only [List.mem_cons, List.not_mem_nil, or_false, not_or]; exact ⟨x1, x2, x3, x4, x5, x6, x13, x17⟩), f3 x (by simp only [List.mem_cons, List.not_mem_nil, or_false, not_or]; exact ⟨x7, x8, x9, x10, x11, x12, x14, x15, x16, x18, x19, x20, x21⟩)]
  · rw [Fp.1 1606 (by decide), f2]
end JSE
