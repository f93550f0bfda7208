/-! ===== WHAT NETWORK AND SERVER KEEP TO: a thing is put ===== -/
section NPB
variable {n : Nat} {M M0 M1 M2 M3 : z_Mem} {r r1 r2 : q_R} {TL CL : List Nat} {t s q z c w : Nat} {D : Int}
theorem q_p111E {p : Nat} (hp : p < 2) {s' i : Int32} (h0 : 0 ≤ (r.1 1551).toInt) (h1 : (r.1 1551).toInt < 1300) (hq0 : 0 ≤ (r.2 51 p).toInt) (hq : (r.2 51 p).toInt < 30) : (∀ g, g ≠ 1551 → (qF_puts_111 (nI p) s' i r).1 g = r.1 g) ∧ jN ((qF_puts_111 (nI p) s' i r).1 1551) = jN (r.1 1551) + 1 ∧ (∀ x, x ∉ [50, 51, 52, 53, 54] → (qF_puts_111 (nI p) s' i r).2 x = r.2 x) ∧ (∀ j, (qF_puts_111 (nI p) s' i r).2 52 j = if j = jN (r.1 1551) then s' else r.2 52 j) ∧ (∀ j, (qF_puts_111 (nI p) s' i r).2 53 j = if j = jN (r.1 1551) then i else r.2 53 j) ∧ (∀ j, (qF_puts_111 (nI p) s' i r).2 54 j = if j = jN (r.1 1551) then nI p else r.2 54 j) ∧ (∀ j, (qF_puts_111 (nI p) s' i r).2 50 j = if j = 30 * p + jN (r.2 51 p) then r.1 1551 else r.2 50 j) ∧ (∀ j, (qF_puts_111 (nI p) s' i r).2 51 j = if j = p then r.2 51 p + 1 else r.2 51 j) := by
  have pN : jN (nI p) = p := jN_nI (by omega)
  have nq := jN_toInt hq0
  have eQ : jN (30 * nI p + r.2 51 p) = 30 * p + jN (r.2 51 p) := jN_of (by
    rw [i_addE (i_mulE (show (30 : Int32).toInt = 30 from rfl) (jI_t (show p < 2147483648 by omega)) (by omega) (by omega)) rfl (by omega) (by omega)]; omega)
  rw [qC_puts_111, pN, eQ]
  refine ⟨fun g hg => ?_, ?_, fun x hx => ?_, fun j => ?_, fun j => ?_, fun j => ?_, fun j => ?_, fun j => ?_⟩
  · rw [uf_n hg]; rfl
  · rw [uf_e]; exact jN_add1 h0 (by omega)
  · simp only [List.mem_cons, List.not_mem_nil, or_false, not_or] at hx
    obtain ⟨x1, x2, x3, x4, x5⟩ := hx
    rw [uf2, ua_n x2, ua_n x1, ua_n x5, ua_n x4, ua_n x3]
  · rw [uf2, ua_n (by decide), ua_n (by decide), ua_n (by decide), ua_n (by decide), ua2, if_pos rfl]
  · rw [uf2, ua_n (by decide), ua_n (by decide), ua_n (by decide), ua2, if_pos rfl, ua_n (by decide)]
  · rw [uf2, ua_n (by decide), ua_n (by decide), ua2, if_pos rfl, ua_n (by decide), ua_n (by decide)]
  · rw [uf2, ua_n (by decide), ua2, if_pos rfl, ua_n (by decide), ua_n (by decide), ua_n (by decide)]
  · rw [uf2, ua2, if_pos rfl, ua_n (by decide), ua_n (by decide), ua_n (by decide), ua_n (by decide)]
theorem rI_eq3 (F : q_fr [] [46, 77, 81] r r1) (I : rf_I t s q z r.1 r.2) : rf_I t s q z r1.1 r1.2 := by
  obtain ⟨c1, c2, c3, c4, c5, c6, c7, c8, c9, c10, c11, c12⟩ := I
  exact ⟨c1.congr (fun x hx => F.2 x (by revert hx; revert x; decide)), c2.congr (fun g hg => F.1 g List.not_mem_nil), c3.congr (fun x hx => F.2 x (by revert hx; revert x; decide)), c4.congr (fun x hx => F.2 x (by revert hx; revert x; decide)) (fun g hg => F.1 g List.not_mem_nil), c5.congr (fun x hx => F.2 x (by revert hx; revert x; decide)), c6.congr (fun x hx => F.2 x (by revert hx; revert x; decide)) (fun g hg => F.1 g List.not_mem_nil), c7.congr (fun x hx => F.2 x (by revert hx; revert x; decide)), c8.congr (fun x hx => F.2 x (by revert hx; revert x; decide)) (fun g hg => F.1 g List.not_mem_nil), c9.congr (fun g hg => F.1 g List.not_mem_nil), c10.congr (fun x hx => F.2 x (by revert hx; revert x; decide)), c11.congr (fun x hx => F.2 x (by revert hx; revert x; decide)) (fun g hg => F.1 g List.not_mem_nil), c12.congr (fun x hx => F.2 x (by revert hx; revert x; decide)) (fun g hg => F.1 g List.not_mem_nil)⟩
theorem nI_ne_m1 {i : Nat} (h : i < 2147483648) : ¬ nI i = -1 := fun e => by
  have := congrArg Int32.toInt e
  rw [jI_t h, show (-1 : Int32).toInt = -1 from rfl] at this
  omega
theorem nP_p111 (h : nP D c w r) (I : rf_I (t + 1) s q z r.1 r.2) (hD : 0 ≤ D) {p : Nat} (hp : p < 2) {s' i : Int32} (hq : (r.2 51 p).toInt < 30) (hs : (s' = 1 ∧ p = 0 ∧ r.1 1580 = r.1 1536) ∨ (s' = 2 ∧ p = 0 ∧ jN i < jN (r.1 1606)) ∨ s' = 3 ∨ (s' = 4 ∧ ¬ r.1 1562 = 0)) (hcl : ¬ r.1 1577 = 0) (hC : nC c w (uf r 1551 (r.1 1551 + 1))) : nP D c w (qF_puts_111 (nI p) s' i r) := by
  obtain ⟨t0, t1⟩ := ri_thg I
  have b51 := fun j => ri_A I (x := 51) (lo := 0) (hi := 30) (by decide) j
  have nT := jN_toInt t0
  have iT := jI_jN t0
  have nQ0 := jN_toInt (b51 p).1
  obtain ⟨f1, f2, f3, f52, f53, f54, f50, f51⟩ := q_p111E (r := r) hp (s' := s') (i := i) t0 t1 (b51 p).1 hq
  have fC : nC c w (qF_puts_111 (nI p) s' i r) := by
    refine nC_c (r := uf r 1551 (r.1 1551 + 1)) (fun g hg => ?_) ?_ hC
    · by_cases e : g = 1551
      · rw [e, uf_e, qC_puts_111, uf_e]
      · rw [f1 g e, uf_n e]
    · rw [f3 56 (by decide)]; rfl
  generalize qF_puts_111 (nI p) s' i r = R at f1 f2 f3 f52 f53 f54 f50 f51 fC
  generalize hTT : jN (r.1 1551) = T at nT iT f2 f52 f53 f54
  generalize hQQ : jN (r.2 51 p) = Q at nQ0 f50
  obtain ⟨q1, ⟨g1, g2, g3, g4⟩, ⟨d1, d2, d3, d4, d5, d6, d7, d8⟩, ⟨s1, s2, s3, s4, s5, s6⟩, -, p1⟩ := h
  rw [hTT] at g2 d1 s3
  have hQ51 : ∀ p', p' < 2 → ∀ k, k < jN (R.2 51 p') → (p' = p ∧ k = Q) ∨ (k < jN (r.2 51 p') ∧ ¬ 30 * p' + k = 30 * p + Q) := fun p' hp' k hk => by
    have b := b51 p'
    have nb := jN_toInt b.1
    rw [f51] at hk
    by_cases e : p' = p
    · subst e
      rw [if_pos rfl, jN_add1 b.1 (by omega), hQQ] at hk
      by_cases e2 : k = Q
      · exact Or.inl ⟨rfl, e2⟩
      · exact Or.inr ⟨by omega, by omega⟩
    · rw [if_neg e] at hk
      exact Or.inr ⟨hk, by omega⟩
  have old : ∀ p' k, p' < 2 → k < jN (r.2 51 p') → ∀ th, th < 1300 → r.2 50 (30 * p' + k) = nI th → th < T := fun p' k hp' hk th hth e => by
    rcases q1 p' k hp' hk with h | ⟨th0, h1, h2, h3, -⟩
    · rw [e] at h; exact absurd h (nI_ne_m1 (by omega))
    · rw [e] at h3
      have := jI_inj (by omega) (by omega) h3
      omega
  refine ⟨fun p' k hp' hk => ?_, ⟨fun k th hk e50 hth hth2 e52 => ?_, fun th hth e52 => ?_, fun k hk e52 => ?_, fun k hk e57 => ?_⟩, ⟨fun th hth e52 => ?_, fun k hk => ?_, jTK_c (f1 1572 (by decide)) (f3 63 (by decide)) d3, ?_, fun a ha e57 => ?_, ?_, ?_, ?_⟩, ⟨?_, ?_, fun e62 => ⟨fun th hth => ?_, ?_, ?_⟩, fun e77 => ?_, ?_, ?_⟩, fC, ?_⟩
  · rw [f50, f2]
    rcases hQ51 p' hp' k hk with ⟨e1, e2⟩ | ⟨e1, e2⟩
    · rw [e1, e2, if_pos rfl]
      exact Or.inr ⟨T, by omega, by omega, iT.symm, by rw [f54, if_pos rfl]⟩
    · rw [if_neg e2]
      rcases q1 p' k hp' e1 with h | ⟨th0, h1, h2, h3, h4⟩
      · exact Or.inl h
      · exact Or.inr ⟨th0, by omega, h2, h3, by rw [f54, if_neg (by omega)]; exact h4⟩
  · rw [f50] at e50
    rw [f2] at hth
    rw [f52] at e52
    rw [f1 1536 (by decide), f1 1580 (by decide)]
    rcases hQ51 0 (by decide) k hk with ⟨e1, e2⟩ | ⟨e1, e2⟩
    · rw [← e1, e2, if_pos (by omega), ← iT] at e50
      have et := jI_inj (by omega) (by omega) e50
      rw [← et, if_pos rfl] at e52
      rcases hs with ⟨x1, x2, x3⟩ | ⟨x1, -⟩ | x1 | ⟨x1, -⟩
      · rw [x3]; omega
      · rw [x1] at e52; exact absurd e52 (by decide)
      · rw [x1] at e52; exact absurd e52 (by decide)
      · rw [x1] at e52; exact absurd e52 (by decide)
    · rw [if_neg (by omega)] at e50
      have hlt := old 0 k (by decide) e1 th hth2 (by rw [Nat.mul_zero, Nat.zero_add]; exact e50)
      rw [if_neg (by omega)] at e52
      exact g1 k th e1 e50 (by omega) hth2 e52
  · rw [f2] at hth
    rw [f52] at e52
    rw [f54]
    by_cases e : th = T
    · rw [if_pos e] at e52 ⊢
      rcases hs with ⟨x1, x2, x3⟩ | ⟨x1, -⟩ | x1 | ⟨x1, -⟩
      · rw [x2]; rfl
      · rw [x1] at e52; exact absurd e52 (by decide)
      · rw [x1] at e52; exact absurd e52 (by decide)
      · rw [x1] at e52; exact absurd e52 (by decide)
    · rw [if_neg e] at e52 ⊢
      exact g2 th (by omega) e52
  · rw [f1 1554 (by decide)] at hk
    rw [f3 55 (by decide), f52] at e52
    have hd := (d2 k hk).1
    rw [if_neg (by omega)] at e52
    rw [f3 56 (by decide), f1 1580 (by decide)]
    exact g3 k hk e52
  · rw [f1 1559 (by decide)] at hk
    rw [f3 57 (by decide)] at e57
    rw [f3 60 (by decide), f1 1580 (by decide)]
    exact g4 k hk e57
  · rw [f2] at hth
    rw [f52] at e52
    rw [f53, f54, f1 1606 (by decide)]
    by_cases e : th = T
    · rw [if_pos e] at e52
      rw [if_pos e, if_pos e]
      rcases hs with ⟨x1, -⟩ | ⟨x1, x2, x3⟩ | x1 | ⟨x1, -⟩
      · rw [x1] at e52; exact absurd e52 (by decide)
      · exact ⟨x3, by rw [x2]; rfl⟩
      · rw [x1] at e52; exact absurd e52 (by decide)
      · rw [x1] at e52; exact absurd e52 (by decide)
    · rw [if_neg e] at e52
      rw [if_neg e, if_neg e]
      exact d1 th (by omega) e52
  · rw [f1 1554 (by decide)] at hk
    have hd := d2 k hk
    rw [f3 55 (by decide), f2, f52, f53, if_neg (by omega), if_neg (by omega), f3 72 (by decide), f3 56 (by decide)]
    exact ⟨by omega, hd.2⟩
  · rw [f3 63 (by decide), f1 1606 (by decide), f3 72 (by decide), f1 1536 (by decide)]; exact d4
  · rw [f1 1559 (by decide)] at ha
    rw [f3 57 (by decide)] at e57
    rw [f3 58 (by decide), f1 1561 (by decide), f3 60 (by decide)]
    exact ⟨(d5 a ha e57).1, nTld_c (f3 61 (by decide)) (f1 1606 (by decide)) (f3 72 (by decide)) (d5 a ha e57).2⟩
  · rw [f1 1606 (by decide), f3 78 (by decide)]; exact d6
  · rw [f1 1573 (by decide)]; exact d7
  · rw [f1 1568 (by decide)]; exact d8
  · rw [f1 1562 (by decide)]; exact s1
  · rw [f1 1577 (by decide)]; exact s2
  · rw [f1 1562 (by decide)] at e62
    rw [f2] at hth
    rw [f52]
    by_cases e : th = T
    · rw [if_pos e]
      rcases hs with ⟨x1, -⟩ | ⟨x1, -⟩ | x1 | ⟨x1, x2⟩
      · rw [x1]; decide
      · rw [x1]; decide
      · rw [x1]; decide
      · exact absurd e62 x2
    · rw [if_neg e]; exact (s3 e62).1 th (by omega)
  · rw [f1 1562 (by decide)] at e62
    rw [f1 1559 (by decide), f3 57 (by decide)]; exact (s3 e62).2.1
  · rw [f1 1562 (by decide)] at e62
    rw [f1 1577 (by decide)]; exact (s3 e62).2.2
  · rw [f1 1577 (by decide)] at e77; exact absurd e77 hcl
  · rw [f1 1577 (by decide), f3 91 (by decide)]; exact s5
  · rw [f1 1577 (by decide), f1 1582 (by decide)]; exact s6
  · obtain ⟨⟨x1, x2, x3, x4, x5⟩, x6⟩ := p1
    refine ⟨⟨by rw [f3 41 (by decide)]; exact x1, by rw [f3 42 (by decide)]; exact x2, by rw [f3 49 (by decide)]; exact x3, fun j => ?_, by rw [f1 1536 (by decide)]; exact x5⟩, by rw [f1 1584 (by decide)]; exact x6⟩
    rw [f51]
    by_cases e : j = p
    · have e1 : (r.2 51 p + 1).toInt = (r.2 51 p).toInt + 1 := i_addE rfl (show (1 : Int32).toInt = 1 from rfl) (by have := (b51 p).1; omega) (by omega)
      rw [if_pos e, e1]
      have := (b51 p).1
      omega
    · rw [if_neg e]; exact x4 j
/-- a thing is put, or is gone -/
theorem nP_puts (h : nP D c w r) (I : rf_I (t + 1) s q z r.1 r.2) (hD : 0 ≤ D) {p : Nat} (hp : p < 2) {s' i : Int32} (hk : (s' = 1 ∧ p = 0 ∧ r.1 1580 = r.1 1536) ∨ (s' = 2 ∧ p = 0 ∧ jN i < jN (r.1 1606)) ∨ s' = 3 ∨ (s' = 4 ∧ ¬ r.1 1562 = 0)) (hcl : ¬ r.1 1577 = 0) (hC : nC c w (uf r 1551 (r.1 1551 + 1))) : nP D c w (qF_puts (nI p) s' i r) := by
  have pN : (nI p).toNatClampNeg = p := jN_nI (by omega)
  have b43 := ri_A I (x := 43) (lo := 0) (hi := 30) (by decide) p
  have go : ∀ r1 : q_R, q_fr [] [46, 77, 81] r r1 → r.2 51 p < r.2 43 p → nP D c w (qF_puts_111 (nI p) s' i r1) := fun r1 F hlt => by
    rw [Int32.lt_iff_toInt_lt] at hlt
    have h1 : nP D c w r1 := nP_fr F (by decide) (by decide) (by decide) h
    have I1 : rf_I (t + 1) s q z r1.1 r1.2 := rI_eq3 F I
    refine nP_p111 h1 I1 hD hp (by rw [F.2 51 (by decide)]; omega) ?_ (by rw [F.1 1577 (by decide)]; exact hcl) ?_
    · rw [F.1 1580 (by decide), F.1 1536 (by decide), F.1 1606 (by decide), F.1 1562 (by decide)]; exact hk
    · refine nC_c (r := uf r 1551 (r.1 1551 + 1)) (fun g hg => ?_) (F.2 56 (by decide)) hC
      by_cases e : g = 1551
      · rw [e, uf_e, uf_e, F.1 1551 (by decide)]
      · rw [uf_n e, uf_n e, F.1 g List.not_mem_nil]
  by_cases c2 : s' = 2
  · rw [c2]
    rw [c2] at go
    obtain ⟨r1, h1, h2⟩ := q_putsE2 (r := r) (p := nI p) (i := i)
    rw [pN] at h2
    have F1 : q_fr [] [46, 77, 81] r r1 := q_frw (q_l46F h1) (by decide) (by decide)
    rcases h2 with h2 | ⟨v, h2, h3⟩
    · rw [h2]
      exact nP_fr (q_frua (by decide) F1) (by decide) (by decide) (by decide) h
    · rw [h2]
      exact go _ (q_frua (by decide) F1) h3
  · obtain ⟨r1, h1, h2⟩ := q_putsE (r := r) (p := nI p) (i := i) c2
    rw [pN] at h2
    have F1 : q_fr [] [46, 77, 81] r r1 := q_frw (q_l46F h1) (by decide) (by decide)
    rcases h2 with h2 | ⟨h2, h3⟩
    · rw [h2]
      exact nP_fr F1 (by decide) (by decide) (by decide) h
    · rw [h2]
      exact go _ F1 h3
end NPB
