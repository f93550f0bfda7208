/-! ===== WHAT NETWORK AND SERVER KEEP TO: the server answers ===== -/
section NPE
variable {n : Nat} {M M0 M1 M2 M3 : z_Mem} {r r1 r2 : q_R} {TL CL : List Nat} {t s q z c w w0 : Nat} {D : Int}
theorem q_ansE {p : Nat} (hp : p < 2) {s' i : Int32} : qF_answers (nI p) s' i r = r ∨ (∃ v, qF_answers (nI p) s' i r = ua r 47 p v) ∨ qF_answers (nI p) s' i r = q_answ (nI p) s' i r := by
  have pN : (nI p).toNatClampNeg = p := jN_nI (by omega)
  have pN2 : jN (nI p) = p := pN
  rw [qE_answers, pN]
  split
  · split
    · refine Or.inr (Or.inr ?_)
      unfold q_answ
      rw [pN2]
      rfl
    · exact Or.inr (Or.inl ⟨_, rfl⟩)
  · exact Or.inl rfl
theorem q_answE {p : Nat} (hp : p < 2) {s' i : Int32} : (∀ g, g ≠ 1559 → (q_answ (nI p) s' i r).1 g = r.1 g) ∧ (q_answ (nI p) s' i r).1 1559 = r.1 1559 + 1 ∧ (∀ x, x ≠ 57 → x ≠ 58 → x ≠ 59 → x ≠ 60 → (q_answ (nI p) s' i r).2 x = r.2 x) ∧ (∀ j, (q_answ (nI p) s' i r).2 57 j = if j = jN (r.1 1559) then s' else r.2 57 j) ∧ (∀ j, (q_answ (nI p) s' i r).2 58 j = if j = jN (r.1 1559) then i else r.2 58 j) ∧ (∀ j, (q_answ (nI p) s' i r).2 60 j = if j = jN (r.1 1559) then r.1 1536 + r.2 41 p else r.2 60 j) := by
  have pN : jN (nI p) = p := jN_nI (by omega)
  unfold q_answ
  rw [pN]
  refine ⟨fun g hg => ?_, uf_e, fun x a b c d => ?_, fun j => ?_, fun j => ?_, fun j => ?_⟩
  · rw [uf_n hg]; rfl
  · rw [uf2, ua_n d, ua_n c, ua_n b, ua_n a]
  · rw [uf2, ua_n (by decide), ua_n (by decide), ua_n (by decide), ua2, if_pos rfl]
  · rw [uf2, ua_n (by decide), ua_n (by decide), ua2, if_pos rfl, ua_n (by decide)]
  · rw [uf2, ua2, if_pos rfl, ua_n (by decide), ua_n (by decide), ua_n (by decide)]
theorem nP_q_answ (h : nP D c w0 r) (hw : w + 1 ≤ w0) (h0 : 0 ≤ (r.1 1559).toInt) (h1 : (r.1 1559).toInt < 3600) {p : Nat} (hp : p < 2) {s' i : Int32} (h6 : s' = 6 → (r.1 1536).toInt ≤ (r.1 1580).toInt + 110) (h7 : s' = 7 → jN i < jN (r.1 1561) ∧ nTld r (r.1 1536 + r.2 41 p).toInt (jN i)) (h5 : r.1 1562 = 0 → s' = 5) (hcl : ¬ r.1 1577 = 0) : nP D c w (q_answ (nI p) s' i r) := by
  obtain ⟨f1, f2, f3, f57, f58, f60⟩ := q_answE (r := r) hp (s' := s') (i := i)
  generalize q_answ (nI p) s' i r = R at f1 f2 f3 f57 f58 f60
  have nA := jN_toInt h0
  have eA : jN (R.1 1559) = jN (r.1 1559) + 1 := by rw [f2]; exact jN_add1 h0 (by omega)
  generalize hAA : jN (r.1 1559) = A at nA eA f57 f58 f60
  obtain ⟨q1, ⟨g1, g2, g3, g4⟩, ⟨d1, d2, d3, d4, d5, d6, d7, d8⟩, ⟨s1, s2, s3, s4, s5, s6⟩, ⟨k, H, a1, a2, a3, a4, a5⟩, p1⟩ := h
  rw [hAA] at g4 d5 s3 a5
  have b41 := p1.1.1 p hp
  have bn := p1.1.2.2.2.2
  have e41 : (r.1 1536 + r.2 41 p).toInt = (r.1 1536).toInt + (r.2 41 p).toInt := i_addE rfl rfl (by omega) (by omega)
  refine ⟨nQ_c (f3 51 (by decide) (by decide) (by decide) (by decide)) (f3 50 (by decide) (by decide) (by decide) (by decide)) (f1 1551 (by decide)) (f3 54 (by decide) (by decide) (by decide) (by decide)) q1, ⟨?_, ?_, ?_, fun k hk e => ?_⟩, ⟨?_, ?_, jTK_c (f1 1572 (by decide)) (f3 63 (by decide) (by decide) (by decide) (by decide)) d3, ?_, fun a ha e => ?_, ?_, ?_, ?_⟩, ⟨?_, ?_, fun e => ?_, fun e => ?_, ?_, ?_⟩, ⟨k, H, a1, ?_, ?_, ?_, ?_⟩, nK_c (f1 1536 (by decide)) (f1 1584 (by decide)) (fun x hx => f3 x (by revert hx; revert x; decide) (by revert hx; revert x; decide) (by revert hx; revert x; decide) (by revert hx; revert x; decide)) p1⟩
  · rw [f3 51 (by decide) (by decide) (by decide) (by decide), f3 50 (by decide) (by decide) (by decide) (by decide), f1 1551 (by decide), f3 52 (by decide) (by decide) (by decide) (by decide), f1 1536 (by decide), f1 1580 (by decide)]; exact g1
  · rw [f1 1551 (by decide), f3 52 (by decide) (by decide) (by decide) (by decide), f3 54 (by decide) (by decide) (by decide) (by decide)]; exact g2
  · rw [f1 1554 (by decide), f3 52 (by decide) (by decide) (by decide) (by decide), f3 55 (by decide) (by decide) (by decide) (by decide), f3 56 (by decide) (by decide) (by decide) (by decide), f1 1580 (by decide)]; exact g3
  · rw [eA] at hk
    rw [f57] at e
    rw [f60, f1 1580 (by decide)]
    by_cases ek : k = A
    · rw [if_pos ek] at e ⊢
      have := h6 e
      rw [e41]; omega
    · rw [if_neg ek] at e ⊢
      exact g4 k (by omega) e
  · rw [f1 1551 (by decide), f1 1606 (by decide), f3 52 (by decide) (by decide) (by decide) (by decide), f3 53 (by decide) (by decide) (by decide) (by decide), f3 54 (by decide) (by decide) (by decide) (by decide)]; exact d1
  · rw [f1 1554 (by decide), f1 1551 (by decide), f3 52 (by decide) (by decide) (by decide) (by decide), f3 53 (by decide) (by decide) (by decide) (by decide), f3 55 (by decide) (by decide) (by decide) (by decide), f3 56 (by decide) (by decide) (by decide) (by decide), f3 72 (by decide) (by decide) (by decide) (by decide)]; exact d2
  · rw [f3 63 (by decide) (by decide) (by decide) (by decide), f1 1606 (by decide), f3 72 (by decide) (by decide) (by decide) (by decide), f1 1536 (by decide)]; exact d4
  · rw [eA] at ha
    rw [f57] at e
    rw [f58, f60, f1 1561 (by decide)]
    have nt : ∀ x t', nTld r x t' → nTld R x t' := fun x t' h => nTld_c (f3 61 (by decide) (by decide) (by decide) (by decide)) (f1 1606 (by decide)) (f3 72 (by decide) (by decide) (by decide) (by decide)) h
    by_cases ek : a = A
    · rw [if_pos ek] at e
      rw [if_pos ek, if_pos ek]
      exact ⟨(h7 e).1, nt _ _ (h7 e).2⟩
    · rw [if_neg ek] at e
      rw [if_neg ek, if_neg ek]
      have := d5 a (by omega) e
      exact ⟨this.1, nt _ _ this.2⟩
  · rw [f1 1606 (by decide), f3 78 (by decide) (by decide) (by decide) (by decide)]; exact d6
  · rw [f1 1573 (by decide)]; exact d7
  · rw [f1 1568 (by decide)]; exact d8
  · rw [f1 1562 (by decide)]; exact s1
  · rw [f1 1577 (by decide)]; exact s2
  · rw [f1 1562 (by decide)] at e
    have h3 := s3 e
    rw [f1 1551 (by decide), f3 52 (by decide) (by decide) (by decide) (by decide), f1 1577 (by decide)]
    refine ⟨h3.1, fun k hk => ?_, h3.2.2⟩
    rw [eA] at hk
    rw [f57]
    by_cases ek : k = A
    · rw [if_pos ek]; exact h5 e
    · rw [if_neg ek]; exact h3.2.1 k (by omega)
  · rw [f1 1577 (by decide)] at e; exact absurd e hcl
  · rw [f1 1577 (by decide), f3 91 (by decide) (by decide) (by decide) (by decide)]; exact s5
  · rw [f1 1577 (by decide), f1 1582 (by decide)]; exact s6
  · rw [f1 1577 (by decide)]; exact a2
  · rw [f1 1577 (by decide), f1 1581 (by decide), f1 1580 (by decide), f1 1579 (by decide)]; exact a3
  · rw [f1 1551 (by decide), f1 1606 (by decide)]; exact a4
  · have eR : nAr R = nAr r := nAr_c (f1 1536 (by decide)) (f1 1554 (by decide)) (f3 56 (by decide) (by decide) (by decide) (by decide))
    have eF : nFl R = nFl r := by unfold nFl; rw [f1 1574 (by decide)]
    rw [eR, eF, eA, f1 1551 (by decide), f1 1606 (by decide), f1 1536 (by decide)]
    omega
theorem nP_answ (h : nP D c w0 r) (hw : w + 1 ≤ w0) (h0 : 0 ≤ (r.1 1559).toInt) (h1 : (r.1 1559).toInt < 3600) {p : Nat} (hp : p < 2) {s' i : Int32} (h6 : s' = 6 → (r.1 1536).toInt ≤ (r.1 1580).toInt + 110) (h7 : s' = 7 → jN i < jN (r.1 1561) ∧ nTld r (r.1 1536 + r.2 41 p).toInt (jN i)) (h5 : r.1 1562 = 0 → s' = 5) (hcl : ¬ r.1 1577 = 0) : nP D c w (qF_answers (nI p) s' i r) := by
  rcases q_ansE (r := r) hp (s' := s') (i := i) with e | ⟨v, e⟩ | e
  · rw [e]; exact nP_w h (by omega)
  · rw [e]; exact nP_fr (q_frua (Fs := []) (Rs := [47]) (by decide) q_fr0) (by decide) (by decide) (by decide) (nP_w h (by omega))
  · rw [e]; exact nP_q_answ h hw h0 h1 hp h6 h7 h5 hcl
end NPE
