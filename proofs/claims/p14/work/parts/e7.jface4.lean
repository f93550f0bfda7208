/-! ===== THE LIKENESS at the face: connect, tick ===== -/
section JK
variable {n : Nat} {M M0 M1 M2 : z_Mem} {r r1 r2 : q_R} {TL CL : List Nat} {p1 p2 p3 p4 p5 : Int32} {t s q z c w : Nat} {D : Int}
theorem nP_con (h : nP 0 c 0 r) (h2 : r.1 1577 = 0) (I : rf_I (t + 1) s q z r.1 r.2) (hp : -1 ≤ p1.toInt ∧ p1.toInt ≤ 9) : nP 0 c 0 (qF_saysHello (uf (uf (uf r 1577 1) 1578 p1) 1581 10)) := by
  have I1 := rI_con (p1 := p1) I hp
  have ck0 := ri_ck I
  have ck : (uf (uf (uf r 1577 1) 1578 p1) 1581 10).1 1579 = 0 ∨ (uf (uf (uf r 1577 1) 1578 p1) 1581 10).1 1579 = 1 := ck0
  have bn := ri_now I
  have b80 := ri_F I (g := 1580) (lo := 0) (hi := 2000) (by decide)
  have C9 := I.2.2.2.2.2.2.2.2.1.2
  rw [q_hello _ ck]
  rw [show (uf (uf (uf r 1577 1) 1578 p1) 1581 10).1 1536 = r.1 1536 from rfl]
  have I3 : rf_I (t + 1) s q z (ua (uf (uf (uf (uf r 1577 1) 1578 p1) 1581 10) 1580 (r.1 1536)) 106 3 ((uf (uf (uf r 1577 1) 1578 p1) 1581 10).2 106 3 + 1)).1 (ua (uf (uf (uf (uf r 1577 1) 1578 p1) 1581 10) 1580 (r.1 1536)) 106 3 ((uf (uf (uf r 1577 1) 1578 p1) 1581 10).2 106 3 + 1)).2 := rI_a I1 (by decide)
  obtain ⟨t0, t1⟩ := ri_thg I3
  have ea : ∀ g, (ua (uf (uf (uf (uf r 1577 1) 1578 p1) 1581 10) 1580 (r.1 1536)) 106 3 ((uf (uf (uf r 1577 1) 1578 p1) 1581 10).2 106 3 + 1)).1 g = (uf (uf (uf (uf r 1577 1) 1578 p1) 1581 10) 1580 (r.1 1536)).1 g := fun g => rfl
  have er : ∀ x, x ≠ 106 → (ua (uf (uf (uf (uf r 1577 1) 1578 p1) 1581 10) 1580 (r.1 1536)) 106 3 ((uf (uf (uf r 1577 1) 1578 p1) 1581 10).2 106 3 + 1)).2 x = r.2 x := fun x hx => ua_n hx
  generalize ua (uf (uf (uf (uf r 1577 1) 1578 p1) 1581 10) 1580 (r.1 1536)) 106 3 ((uf (uf (uf r 1577 1) 1578 p1) 1581 10).2 106 3 + 1) = R at I3 t0 t1 ea er
  have v81 : R.1 1581 = 10 := by rw [ea, uf_n (by decide), uf_e]
  have v80 : R.1 1580 = r.1 1536 := by rw [ea, uf_e]
  have v77 : R.1 1577 = 1 := by rw [ea, uf_n (by decide), uf_n (by decide), uf_n (by decide), uf_e]
  have vo : ∀ g, g ≠ 1580 → g ≠ 1581 → g ≠ 1577 → g ≠ 1578 → R.1 g = r.1 g := fun g h1 h2 h3 h4 => by rw [ea, uf_n h1, uf_n h2, uf_n h4, uf_n h3]
  obtain ⟨q1, ⟨g1, g2, g3, g4⟩, d, ⟨s1, s2, s3, s4, s5, s6⟩, ⟨k, H, a1, a2, a3, a4, a5⟩, p1'⟩ := h
  have H0 := a2 h2
  have t10 : (10 : Int32).toInt = 10 := rfl
  have eA : nAr R = nAr r := nAr_c (vo 1536 (by decide) (by decide) (by decide) (by decide)) (vo 1554 (by decide) (by decide) (by decide) (by decide)) (er 56 (by decide))
  have eF : nFl R = nFl r := by unfold nFl; rw [vo 1574 (by decide) (by decide) (by decide) (by decide)]
  have nT := jN_toInt t0
  have hcl : ¬ R.1 1577 = 0 := by rw [v77]; decide
  have hPR : nP 0 c 0 R := by
    refine ⟨nQ_c (er 51 (by decide)) (er 50 (by decide)) (vo 1551 (by decide) (by decide) (by decide) (by decide)) (er 54 (by decide)) q1, ⟨fun k th x1 x2 x3 x4 x5 => ?_, ?_, fun k hk e => ?_, fun k hk e => ?_⟩, nD_c (fun g hg => vo g (by revert hg; revert g; decide) (by revert hg; revert g; decide) (by revert hg; revert g; decide) (by revert hg; revert g; decide)) (fun x hx => er x (by revert hx; revert x; decide)) d, ⟨?_, Or.inr (Or.inl v77), fun e => ⟨?_, ?_, Or.inr v77⟩, fun e => absurd e hcl, fun e => ?_, fun e => ?_⟩, ⟨0, H, a1, fun e => absurd e hcl, ?_, ?_, ?_⟩, nK_c (vo 1536 (by decide) (by decide) (by decide) (by decide)) (vo 1584 (by decide) (by decide) (by decide) (by decide)) (fun x hx => er x (by revert hx; revert x; decide)) p1'⟩
    · rw [er 51 (by decide)] at x1
      rw [er 50 (by decide)] at x2
      rw [vo 1551 (by decide) (by decide) (by decide) (by decide)] at x3
      rw [er 52 (by decide)] at x5
      have := g1 k th x1 x2 x3 x4 x5
      rw [vo 1536 (by decide) (by decide) (by decide) (by decide), v80]; omega
    · rw [vo 1551 (by decide) (by decide) (by decide) (by decide), er 52 (by decide), er 54 (by decide)]; exact g2
    · rw [vo 1554 (by decide) (by decide) (by decide) (by decide)] at hk
      rw [er 52 (by decide), er 55 (by decide)] at e
      have := g3 k hk e
      rw [er 56 (by decide), v80]; omega
    · rw [vo 1559 (by decide) (by decide) (by decide) (by decide)] at hk
      rw [er 57 (by decide)] at e
      have := g4 k hk e
      rw [er 60 (by decide), v80]; omega
    · rw [vo 1562 (by decide) (by decide) (by decide) (by decide)]; exact s1
    · rw [vo 1562 (by decide) (by decide) (by decide) (by decide)] at e
      rw [vo 1551 (by decide) (by decide) (by decide) (by decide), er 52 (by decide)]; exact (s3 e).1
    · rw [vo 1562 (by decide) (by decide) (by decide) (by decide)] at e
      rw [vo 1559 (by decide) (by decide) (by decide) (by decide), er 57 (by decide)]; exact (s3 e).2.1
    · rw [v77] at e; rcases e with e | e <;> exact absurd e (by decide)
    · rw [v77] at e; exact absurd e (by decide)
    · intro _
      rw [v81, v80, t10]
      exact ⟨Nat.zero_le _, rfl, by omega, by omega⟩
    · rw [vo 1551 (by decide) (by decide) (by decide) (by decide), vo 1606 (by decide) (by decide) (by decide) (by decide)]; exact a4
    · rw [eA, eF, vo 1559 (by decide) (by decide) (by decide) (by decide), vo 1551 (by decide) (by decide) (by decide) (by decide), vo 1606 (by decide) (by decide) (by decide) (by decide), vo 1536 (by decide) (by decide) (by decide) (by decide)]; exact a5
  refine nP_puts (p := 0) hPR I3 (Int.le_refl 0) (by decide) (Or.inl ⟨rfl, rfl, by rw [v80, vo 1536 (by decide) (by decide) (by decide) (by decide)]⟩) hcl ⟨0, H + 1, by omega, ?_, ?_, ?_, ?_⟩
  · rw [uf_n (by decide)]; exact fun e => absurd e hcl
  · intro _
    rw [uf_n (by decide), uf_n (by decide), v81, v80, t10]
    exact ⟨Nat.zero_le _, rfl, by omega, by omega⟩
  · rw [uf_e, uf_n (by decide), vo 1606 (by decide) (by decide) (by decide) (by decide), jN_add1 t0 (by omega), vo 1551 (by decide) (by decide) (by decide) (by decide)]; omega
  · have eA2 : nAr (uf R 1551 (R.1 1551 + 1)) = nAr R := nAr_c (uf_n (by decide)) (uf_n (by decide)) rfl
    have eF2 : nFl (uf R 1551 (R.1 1551 + 1)) = nFl R := by unfold nFl; rw [uf_n (by decide)]
    rw [eA2, eF2, eA, eF, uf_e, uf_n (by decide), uf_n (by decide), uf_n (by decide), vo 1559 (by decide) (by decide) (by decide) (by decide), jN_add1 t0 (by omega), vo 1551 (by decide) (by decide) (by decide) (by decide), vo 1606 (by decide) (by decide) (by decide) (by decide), vo 1536 (by decide) (by decide) (by decide) (by decide)]; omega
/-- the client begins -/
theorem JJ.begin1 (J : JJ n M r TL CL) (h : r.1 1577 = 0) : JJ n (z_sfi (z_sfi M 135 (n + 31) 1) 136 (n + 31) p1) (uf (uf (uf r 1577 1) 1578 p1) 1581 10) TL CL := by
  have J0 := J
  have hu : ∀ g, g ≠ 1577 → g ≠ 1578 → g ≠ 1581 → (uf (uf (uf r 1577 1) 1578 p1) 1581 10).1 g = r.1 g := fun g a b c => by rw [uf_n c, uf_n b, uf_n a]
  have en : ∀ {k a : Nat}, k ≠ 135 → k ≠ 136 → z_fi (z_sfi (z_sfi M 135 (n + 31) 1) 136 (n + 31) p1) k a = z_fi M k a := fun h1 h2 => by rw [zq_fi_sfi, if_neg h2, zq_fi_sfi, if_neg h1]
  have v77 : (uf (uf (uf r 1577 1) 1578 p1) 1581 10).1 1577 = 1 := by rw [uf_n (by decide), uf_n (by decide), uf_e]
  have v78 : (uf (uf (uf r 1577 1) 1578 p1) 1581 10).1 1578 = p1 := by rw [uf_n (by decide), uf_e]
  have v81 : (uf (uf (uf r 1577 1) 1578 p1) 1581 10).1 1581 = 10 := uf_e
  have h2 : (uf (uf (uf r 1577 1) 1578 p1) 1581 10).2 = r.2 := rfl
  generalize uf (uf (uf r 1577 1) 1578 p1) 1581 10 = r' at *
  obtain ⟨S, js, ja, X, P, Q, T, C⟩ := J
  have js1 : JS n (z_sfi (z_sfi M 135 (n + 31) 1) 136 (n + 31) p1) r' := fun t ht => by
    have hT : ∀ t, t ∈ jT → t = (135, 31, 0, 1577) ∨ t = (136, 31, 0, 1578) ∨ t = (140, 31, 0, 1781) ∨ (¬ (t.1 = 135 ∧ t.2.1 = 31) ∧ ¬ (t.1 = 136 ∧ t.2.1 = 31) ∧ (t.2.2.1 = 0 → t.2.2.2 ≠ 1577 ∧ t.2.2.2 ≠ 1578 ∧ t.2.2.2 ≠ 1581 ∧ t.2.2.2 ≠ 1781)) := by decide
    rcases hT t ht with rfl | rfl | rfl | ⟨h1, h3, h4⟩
    · show z_fi (z_sfi (z_sfi M 135 (n + 31) 1) 136 (n + 31) p1) 135 (n + 31) = j_fv r' 1577
      rw [zq_fi_sfi, if_neg (by decide), zq_fi_sfi, if_pos rfl, if_pos rfl, j_fvn (by decide) (by decide), v77]
    · show z_fi (z_sfi (z_sfi M 135 (n + 31) 1) 136 (n + 31) p1) 136 (n + 31) = j_fv r' 1578
      rw [zq_fi_sfi, if_pos rfl, if_pos rfl, j_fvn (by decide) (by decide), v78]
    · have e81 : ∀ q : q_R, j_fv q 1781 = (if q.1 1577 = 0 then 10 else q.1 1581) := fun q => by
        unfold j_fv
        rw [if_neg (by decide), if_pos rfl]
      have hJ : z_fi M 140 (n + 31) = j_fv r 1781 := js (140, 31, 0, 1781) ht
      show z_fi (z_sfi (z_sfi M 135 (n + 31) 1) 136 (n + 31) p1) 140 (n + 31) = j_fv r' 1781
      rw [en (by decide) (by decide), hJ, e81, e81, if_pos h, v77, v81, if_neg (by decide)]
    · rw [jfi h3, jfi h1, js t ht]
      unfold j_loc
      by_cases hx : t.2.2.1 = 0
      · obtain ⟨a, b, c, d⟩ := h4 hx
        rw [if_pos hx, if_pos hx]
        exact (j_fvo (r := r) (r1 := r') (fun _ => ⟨hu _ (by decide) (by decide) (by decide), hu _ (by decide) (by decide) (by decide)⟩) (fun e => absurd e d) (hu _ a b c)).symm
      · rw [if_neg hx, if_neg hx, h2]
  refine J0.congrX (S_sfi (S_sfi S)) js1 (ja.congr (fun _ _ _ _ => rfl) (fun _ _ => by rw [h2])) ?_ (hF_tr (hF_sfi (by omega)) (hF_sfi (by omega))) (fun _ _ => rfl) (fun q hq => en (by revert hq; revert q; decide) (by revert hq; revert q; decide)) (fun g hg => hu g (by revert hg; revert g; decide) (by revert hg; revert g; decide) (by revert hg; revert g; decide)) (fun _ _ => by rw [h2])
  have el : j_lost r' = j_lost r := by
    funext s' j
    unfold j_lost
    rw [h2]
  have ef : j_fl r' = j_fl r := by
    funext s' j
    unfold j_fl
    rw [h2]
  obtain ⟨y1, y2, y3, y4, y5, y6, y7, y8, y9, y10⟩ := X
  refine ⟨fun p hp => ?_, fun e => ?_, ?_, fun s' hs' => ?_, fun s' hs' => ?_, fun p hp => ?_, ?_, fun p hp => ?_, fun p hp h => ?_, ?_⟩
  · rw [en (by decide) (by decide), h2]; exact y1 p hp
  · rw [v77] at e; exact absurd e (by decide)
  · rw [en (by decide) (by decide), hu 1567 (by decide) (by decide) (by decide), hu 1568 (by decide) (by decide) (by decide)]; exact y3
  · rw [en (by decide) (by decide), el]; exact y4 s' hs'
  · rw [en (by decide) (by decide), h2]; exact y5 s' hs'
  · rw [en (by decide) (by decide), ef, hu 1606 (by decide) (by decide) (by decide)]; exact y6 p hp
  · rw [en (by decide) (by decide), h2, hu 1606 (by decide) (by decide) (by decide)]; exact y7
  · rw [en (by decide) (by decide), h2]; exact y8 p hp
  · rw [h2] at h
    rw [en (by decide) (by decide), en (by decide) (by decide), h2]; exact y9 p hp h
  · rw [en (by decide) (by decide)]; exact y10
theorem x_connect (h : jX n c M r) (I : rf_I (t + 1) s q z r.1 r.2) (hp : -1 ≤ p1.toInt ∧ p1.toInt ≤ 9) (h2 : z_fi M 135 (n + 31) = 0) : jX n c (cF_X1_beginHello (n + 31) p1 M) (qF_connect p1 r) ∧ ¬ (qF_connect p1 r).1 1577 = 0 := by
  rw [js_135_31 h.1] at h2
  rw [q_connect1 hp h2]
  have h0 := jX_1630 h (v := 0)
  have I0 : rf_I (t + 1) s q z (uf r 1630 0).1 (uf r 1630 0).2 := rI_1630 I
  have k2 : (uf r 1630 0).1 1577 = 0 := h2
  generalize uf r 1630 0 = R at h0 I0 k2 ⊢
  have ck0 := ri_ck I0
  have ck : (uf (uf (uf R 1577 1) 1578 p1) 1581 10).1 1579 = 0 ∨ (uf (uf (uf R 1577 1) 1578 p1) 1581 10).1 1579 = 1 := ck0
  have J2 := h0.1.begin1 k2 (p1 := p1)
  have I2 := rI_con (p1 := p1) I0 hp
  have J3 := j_sayHello J2 (t := t) (s := s) (q := q) (z := z) I2 ck
  have hB := cE_X1_beginHello (n + 31) p1 M
  replace hB := hB.trans (q_ste (b := z_sfi M 135 (n + 31) 1) rfl)
  replace hB := hB.trans (q_ste (b := z_sfi (z_sfi M 135 (n + 31) 1) 136 (n + 31) p1) rfl)
  replace hB := hB.trans (q_ste rfl)
  rw [hB]
  have N := nP_con (p1 := p1) h0.2.2.1 k2 I0 hp
  have K : kP (qF_saysHello (uf (uf (uf R 1577 1) 1578 p1) 1581 10)) := kP_hello (kP_uf (kP_uf (kP_uf h0.2.1 (by decide)) (by decide)) (by decide)) ck
  have F : q_fr [1577, 1578, 1581, 1580, 1551] [106, 46, 50, 51, 52, 53, 54] R (qF_saysHello (uf (uf (uf R 1577 1) 1578 p1) 1581 10)) := by
    rw [q_hello _ ck]
    exact q_frt (q_frua (by decide) (q_fruf (by decide) (q_fruf (by decide) (q_fruf (by decide) (q_fruf (by decide) q_fr0))))) (q_frw (q_putsF (by decide)) (by decide) (by decide))
  have s77 : (qF_saysHello (uf (uf (uf R 1577 1) 1578 p1) 1581 10)).1 1577 = 1 := by
    rw [q_hello _ ck, (q_putsF (by decide)).1 1577 (by decide)]
    rw [ua1, uf_n (by decide), uf_n (by decide), uf_n (by decide), uf_e]
  exact ⟨jX_up h0 J3 (F.1 _ (by decide)) (F.1 _ (by decide)) (F.1 _ (by decide)) (F.2 _ (by decide)) (F.2 _ (by decide)) K N (nA_fr F (by decide) h0.2.2.2), by rw [s77]; decide⟩
theorem q_tick1 (hp : 1 ≤ p1.toInt ∧ p1.toInt ≤ 50) (h2 : ¬ 2000 < r.1 1536 + p1) : (qF_tick p1 r).2 = qTicks p1.toInt.toNat (uf r 1630 0) := by
  rw [qE_tick, q_ste2 (q_in1 (show (1 : Int32).toInt = 1 from rfl) (show (50 : Int32).toInt = 50 from rfl) hp), if_neg h2, qE_tick_25, q_ste2 (q_go1 (by decide) (by decide) (by decide)), if_neg (by decide), q_tk36 hp.2 p1.toInt.toNat 0 _ (by decide) (by rw [show (0 : Int32).toInt = 0 from rfl]; omega)]
theorem q_tick0 (h : ¬ ((1 ≤ p1.toInt ∧ p1.toInt ≤ 50) ∧ ¬ 2000 < r.1 1536 + p1)) : ∃ v, (qF_tick p1 r).2 = uf r 1630 v := by
  obtain ⟨x, hx, e⟩ := q_in01 (p1 := p1) (lo := 1) (hi := 50)
  rw [qE_tick, q_ste2 (e r)]
  by_cases h2 : 2000 < r.1 1536 + p1
  · obtain ⟨v, hv⟩ := q_go0 (r := r) (a := x) (b := 0) (d := 1) (Or.inr (Or.inl rfl))
    exact ⟨v, by rw [if_pos h2, qE_tick_25, q_ste2 hv, if_pos rfl]⟩
  · have hp : ¬ (1 ≤ p1.toInt ∧ p1.toInt ≤ 50) := fun g => h ⟨g, h2⟩
    have x0 : x = 0 := congrArg Prod.fst ((e r).symm.trans (q_in0 (show (1 : Int32).toInt = 1 from rfl) (show (50 : Int32).toInt = 50 from rfl) hp))
    obtain ⟨v, hv⟩ := q_go0 (r := r) (a := x) (b := 1) (d := 1) (Or.inl x0)
    exact ⟨v, by rw [if_neg h2, qE_tick_25, q_ste2 hv, if_pos rfl]⟩
theorem x_tick (h : jX n c M r) (I : rf_I (t + 60) (t + 60) (t + 60) 0 r.1 r.2) (hc : c ≤ 512) (hp : 1 ≤ p1.toInt ∧ p1.toInt ≤ 50) (h2 : (z_fi M 645 (n + 1)).toInt + p1.toInt ≤ 2000) : jX n c (cTicks n p1.toInt.toNat M) (qF_tick p1 r).2 := by
  have bn := ri_now I
  rw [js_645_1 h.1] at h2
  rw [q_tick1 hp (by rw [Int32.lt_iff_toInt_lt, i_addE (x := r.1 1536) (y := p1) rfl rfl (by omega) (by omega), show (2000 : Int32).toInt = 2000 from rfl]; omega)]
  have h0 := jX_1630 h (v := 0)
  have hI : jI n t c M (uf r 1630 0) := ⟨h0.1, rI_1630 I, h0.2.1, h0.2.2.1, h0.2.2.2⟩
  obtain ⟨y1, y2, y3, y4, y5⟩ := j_ticks p1.toInt.toNat M _ hI hc (by rw [uf_n (by decide)]; omega)
  exact ⟨y1, y3, y4, y5⟩
end JK
