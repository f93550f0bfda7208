/-! ===== THE LIKENESS at the face: close, connect ===== -/
section JI
variable {n : Nat} {M M0 M1 M2 : z_Mem} {r r1 r2 : q_R} {TL CL : List Nat} {p1 p2 p3 p4 p5 : Int32} {t s q z c w : Nat} {D : Int}
theorem nP_close (h : nP D c w r) (h2 : r.1 1577 = 2) (bn : 0 ≤ (r.1 1536).toInt ∧ (r.1 1536).toInt ≤ 2000) : nP D c w (uf (uf r 1577 3) 1582 (r.1 1536)) := by
  have hu : ∀ g, g ≠ 1577 → g ≠ 1582 → (uf (uf r 1577 3) 1582 (r.1 1536)).1 g = r.1 g := fun g a b => by rw [uf_n b, uf_n a]
  have e77 : (uf (uf r 1577 3) 1582 (r.1 1536)).1 1577 = 3 := by rw [uf_n (by decide), uf_e]
  have e82 : (uf (uf r 1577 3) 1582 (r.1 1536)).1 1582 = r.1 1536 := uf_e
  obtain ⟨q1, g, d, ⟨s1, s2, s3, s4, s5, s6⟩, ⟨k, H, a1, a2, a3, a4, a5⟩, p1⟩ := h
  have h62 : ¬ r.1 1562 = 0 := fun e => by
    rcases (s3 e).2.2 with h | h
    · rw [h2] at h; exact absurd h (by decide)
    · rw [h2] at h; exact absurd h (by decide)
  refine ⟨q1, nH_c (r := r) (fun g hg => hu g (by revert hg; revert g; decide) (by revert hg; revert g; decide)) (fun _ _ => rfl) g, nD_c (r := r) (fun g hg => hu g (by revert hg; revert g; decide) (by revert hg; revert g; decide)) (fun _ _ => rfl) d, ⟨s1, ?_, fun e => absurd e h62, fun e => ?_, fun _ => s5 (Or.inl h2), fun _ => ?_⟩, ⟨k, H, a1, fun e => ?_, fun e => ?_, a4, a5⟩, p1⟩
  · rw [e77]; exact Or.inr (Or.inr (Or.inr (Or.inl rfl)))
  · rw [e77] at e; exact absurd e (by decide)
  · rw [e82]; exact bn
  · rw [e77] at e; exact absurd e (by decide)
  · rw [e77] at e; exact absurd e (by decide)
theorem x_close (h : jX n c M r) (I : rf_I (t + 1) s q z r.1 r.2) (h2 : z_fi M 135 (n + 31) = 2) : jX n (c + 1) (cF_X1_beginClosing (n + 31) M) (qF_close r) := by
  rw [js_135_31 h.1] at h2
  rw [q_close1 h2 h.2.1.1.1]
  have h0 := jX_1630 h (v := 0)
  have I0 : rf_I (t + 1) s q z (uf r 1630 0).1 (uf r 1630 0).2 := rI_1630 I
  have k2 : (uf r 1630 0).1 1577 = 2 := h2
  have k36 : (uf r 1630 0).1 1536 = r.1 1536 := rfl
  rw [← k36]
  generalize uf r 1630 0 = R at h0 I0 k2 k36 ⊢
  have bn := ri_now I0
  have J5 := h0.1.closing (by rw [k2]; decide) (M1 := z_sfi (z_sfi M 135 (n + 31) 3) 141 (n + 31) (R.1 1536 + 30)) rfl
  have X5 : jX n c (z_sfi (z_sfi M 135 (n + 31) 3) 141 (n + 31) (R.1 1536 + 30)) (uf (uf R 1577 3) 1582 (R.1 1536)) := jX_up h0 J5 rfl rfl rfl rfl rfl (kP_uf (kP_uf h0.2.1 (by decide)) (by decide)) (nP_close h0.2.2.1 k2 bn) (nA_fr (q_fruf (Fs := [1577, 1582]) (Rs := []) (by decide) (q_fruf (by decide) q_fr0)) (by decide) h0.2.2.2)
  have I5 : rf_I (t + 1) s q z (uf (uf R 1577 3) 1582 (R.1 1536)).1 (uf (uf R 1577 3) 1582 (R.1 1536)).2 := rI_f (rI_1577 I0 (by decide)) (by decide)
  have k62 : ¬ (uf (uf R 1577 3) 1582 (R.1 1536)).1 1562 = 0 := fun e => by
    have e : R.1 1562 = 0 := e
    rcases (h0.2.2.1.2.2.2.1.2.2.1 e).2.2 with h | h
    · rw [k2] at h; exact absurd h (by decide)
    · rw [k2] at h; exact absurd h (by decide)
  have k77 : ¬ (uf (uf R 1577 3) 1582 (R.1 1536)).1 1577 = 0 := by rw [uf_n (by decide), uf_e]; decide
  have k143 : z_fi (z_sfi (z_sfi M 135 (n + 31) 3) 141 (n + 31) (R.1 1536 + 30)) 143 (n + 31) = 0 := (js_143_31 X5.1).trans X5.2.1.1.1
  have hB := cE_X1_beginClosing (n + 31) M
  replace hB := hB.trans (q_ste (b := z_sfi M 135 (n + 31) 3) rfl)
  have f128 : z_fr (z_sfi M 135 (n + 31) 3) 128 (n + 31) = some (n + 1) := s_128_31 (S_sfi h0.1.1)
  rw [f128] at hB
  replace hB := hB.trans (q_ste (b := n + 1) rfl)
  have f645 : z_fi (z_sfi M 135 (n + 31) 3) 645 (n + 1) = R.1 1536 := by rw [zq_fi_sfi, if_neg (by decide)]; exact js_645_1 h0.1
  rw [f645] at hB
  replace hB := hB.trans (q_ste (b := z_sfi (z_sfi M 135 (n + 31) 3) 141 (n + 31) (R.1 1536 + 30)) rfl)
  generalize z_sfi (z_sfi M 135 (n + 31) 3) 141 (n + 31) (R.1 1536 + 30) = W at hB X5 k143
  rw [k143, if_neg (by decide)] at hB
  generalize uf (uf R 1577 3) 1582 (R.1 1536) = R5 at X5 I5 k62 k77 ⊢
  obtain ⟨E, w1, w2, w3, w4, w5, w6⟩ := j_newm X5.1.1 7
  replace hB := hB.trans (q_ste (b := z_new W 5 8) rfl)
  rw [X4F] at hB
  replace hB := hB.trans (q_ste (b := z_sfi (z_sfi (z_new W 5 8) 517 (z_sz W) (-1)) 512 (z_sz W) 7) rfl)
  rw [s_128_31 X5.1.1] at hB
  replace hB := hB.trans (q_ste (b := n + 1) rfl)
  replace hB := hB.trans (q_ste rfl)
  rw [hB]
  exact x_puts (p := 0) X5 I5 E (by decide) (Nat.le_refl _) (by rw [w1]; omega) (i := 0) (Or.inr ⟨rfl, k62⟩) (Or.inr (Or.inr (Or.inr ⟨rfl, w2, w4⟩))) w5 k77
theorem q_C1 (h : -1 ≤ p1.toInt ∧ p1.toInt ≤ 9) : qF_in p1 (-1) 9 r = (1, r) := q_in1 (show (-1 : Int32).toInt = -1 from rfl) (show (9 : Int32).toInt = 9 from rfl) h
theorem q_connect1 (hp : -1 ≤ p1.toInt ∧ p1.toInt ≤ 9) (h2 : r.1 1577 = 0) : qF_connect p1 r = qF_saysHello (uf (uf (uf (uf r 1630 0) 1577 1) 1578 p1) 1581 10) := by
  rw [qE_connect, q_ste2 (q_C1 hp), if_pos h2, qE_connect_20, q_ste2 (q_go1 (by decide) (by decide) (by decide)), if_neg (by decide)]
  rfl
theorem q_connect0 (h : ¬ ((-1 ≤ p1.toInt ∧ p1.toInt ≤ 9) ∧ r.1 1577 = 0)) : ∃ v, qF_connect p1 r = uf r 1630 v := by
  obtain ⟨x, hx, e⟩ := q_in01 (p1 := p1) (lo := -1) (hi := 9)
  rw [qE_connect, q_ste2 (e r)]
  by_cases h2 : r.1 1577 = 0
  · have hp : ¬ (-1 ≤ p1.toInt ∧ p1.toInt ≤ 9) := fun g => h ⟨g, h2⟩
    have x0 : x = 0 := congrArg Prod.fst ((e r).symm.trans (q_in0 (show (-1 : Int32).toInt = -1 from rfl) (show (9 : Int32).toInt = 9 from rfl) hp))
    obtain ⟨v, hv⟩ := q_go0 (r := r) (a := x) (b := 1) (d := 1) (Or.inl x0)
    exact ⟨v, by rw [if_pos h2, qE_connect_20, q_ste2 hv, if_pos rfl]⟩
  · obtain ⟨v, hv⟩ := q_go0 (r := r) (a := x) (b := 0) (d := 1) (Or.inr (Or.inl rfl))
    exact ⟨v, by rw [if_neg h2, qE_connect_20, q_ste2 hv, if_pos rfl]⟩
theorem rI_con (I : rf_I t s q z r.1 r.2) (hp : -1 ≤ p1.toInt ∧ p1.toInt ≤ 9) : rf_I t s q z (uf (uf (uf (uf r 1577 1) 1578 p1) 1581 10) 1580 (r.1 1536)).1 (uf (uf (uf (uf r 1577 1) 1578 p1) 1581 10) 1580 (r.1 1536)).2 := by
  obtain ⟨c1, c2, c3, c4, c5, c6, c7, c8, c9, c10, c11, c12⟩ := I
  have k36 := c2 (1536, 0, 2000) (by decide)
  have k80 := c2 (1580, 0, 2000) (by decide)
  dsimp only at k36 k80
  have c92 := c9.2
  have w : ∀ k, k ≠ 1577 → k ≠ 1578 → k ≠ 1581 → k ≠ 1580 → (uf (uf (uf (uf r 1577 1) 1578 p1) 1581 10) 1580 (r.1 1536)).1 k = r.1 k := fun k h1 h2 h3 h4 => by rw [uf_n h4, uf_n h3, uf_n h2, uf_n h1]
  have v78 : (uf (uf (uf (uf r 1577 1) 1578 p1) 1581 10) 1580 (r.1 1536)).1 1578 = p1 := by rw [uf_n (by decide), uf_n (by decide), uf_e]
  have v81 : (uf (uf (uf (uf r 1577 1) 1578 p1) 1581 10) 1580 (r.1 1536)).1 1581 = 10 := by rw [uf_n (by decide), uf_e]
  have v80 : (uf (uf (uf (uf r 1577 1) 1578 p1) 1581 10) 1580 (r.1 1536)).1 1580 = r.1 1536 := uf_e
  refine ⟨c1, fun tr htr => ?_, c3, c4.congr (fun _ _ => rfl) (fun y hy => w y (by revert hy; revert y; decide) (by revert hy; revert y; decide) (by revert hy; revert y; decide) (by revert hy; revert y; decide)), c5, c6.congr (fun _ _ => rfl) (fun y hy => w y (by revert hy; revert y; decide) (by revert hy; revert y; decide) (by revert hy; revert y; decide) (by revert hy; revert y; decide)), c7, c8.congr (fun _ _ => rfl) (fun y hy => w y (by revert hy; revert y; decide) (by revert hy; revert y; decide) (by revert hy; revert y; decide) (by revert hy; revert y; decide)), ?_, c10, c11.congr (fun _ _ => rfl) (fun y hy => w y (by revert hy; revert y; decide) (by revert hy; revert y; decide) (by revert hy; revert y; decide) (by revert hy; revert y; decide)), ?_⟩
  · have hC := c2 tr htr
    by_cases h1 : tr.1 = 1578
    · have : tr = (1578, -1, 9) := (show ∀ tr, tr ∈ rf_RF → tr.1 = 1578 → tr = (1578, -1, 9) from by decide) tr htr h1
      subst this
      show -1 ≤ ((uf (uf (uf (uf r 1577 1) 1578 p1) 1581 10) 1580 (r.1 1536)).1 1578).toInt ∧ ((uf (uf (uf (uf r 1577 1) 1578 p1) 1581 10) 1580 (r.1 1536)).1 1578).toInt ≤ 9
      rw [v78]; exact hp
    · by_cases h2 : tr.1 = 1580
      · have : tr = (1580, 0, 2000) := (show ∀ tr, tr ∈ rf_RF → tr.1 = 1580 → tr = (1580, 0, 2000) from by decide) tr htr h2
        subst this
        show 0 ≤ ((uf (uf (uf (uf r 1577 1) 1578 p1) 1581 10) 1580 (r.1 1536)).1 1580).toInt ∧ ((uf (uf (uf (uf r 1577 1) 1578 p1) 1581 10) 1580 (r.1 1536)).1 1580).toInt ≤ 2000
        rw [v80]; exact k36
      · have h3 : tr.1 ≠ 1581 := (show ∀ tr, tr ∈ rf_RF → tr.1 ≠ 1581 from by decide) tr htr
        have h4 : tr.1 ≠ 1577 := (show ∀ tr, tr ∈ rf_RF → tr.1 ≠ 1577 from by decide) tr htr
        rw [w _ h4 h1 h3 h2]; exact hC
  · unfold rf_C9
    rw [v81, v80, w 1536 (by decide) (by decide) (by decide) (by decide)]
    exact ⟨fun _ => by decide, Int.le_refl _⟩
  · unfold rf_C12 at c12 ⊢
    rw [v80, w 1579 (by decide) (by decide) (by decide) (by decide), w 1551 (by decide) (by decide) (by decide) (by decide), w 1606 (by decide) (by decide) (by decide) (by decide), w 1559 (by decide) (by decide) (by decide) (by decide), w 1536 (by decide) (by decide) (by decide) (by decide), w 1554 (by decide) (by decide) (by decide) (by decide), w 1561 (by decide) (by decide) (by decide) (by decide)]
    have e2 : (uf (uf (uf (uf r 1577 1) 1578 p1) 1581 10) 1580 (r.1 1536)).2 = r.2 := rfl
    rw [e2]
    omega
end JI
