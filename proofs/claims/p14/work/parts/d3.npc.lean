/-! ===== WHAT NETWORK AND SERVER KEEP TO: something arrives at the client ===== -/
section NPI
variable {n : Nat} {M M0 M1 M2 M3 : z_Mem} {r r1 r2 : q_R} {TL CL : List Nat} {t s q z c w w0 : Nat} {D : Int}
theorem nP_cook (hD : 0 ≤ D) (h1 : r.1 1577 = 1) (c0 : r.1 1579 = 0) (hk : kI t s q z r) (h : nP D c w r) : nP D c w (qF_saysHello (uf (uf r 1579 1) 1581 10)) := by
  obtain ⟨I1, I2⟩ := rI_cook hk.1 c0
  have ck : (uf (uf r 1579 1) 1581 10).1 1579 = 0 ∨ (uf (uf r 1579 1) 1581 10).1 1579 = 1 := Or.inr rfl
  have bn := ri_now hk.1
  have b80 := ri_F hk.1 (g := 1580) (lo := 0) (hi := 2000) (by decide)
  have C9 := hk.1.2.2.2.2.2.2.2.2.1.2
  rw [q_hello _ ck]
  rw [show (uf (uf r 1579 1) 1581 10).1 1536 = r.1 1536 from rfl]
  have I3 : rf_I (t + 1) (s + 1) (q + 1) z (ua (uf (uf (uf r 1579 1) 1581 10) 1580 (r.1 1536)) 106 3 ((uf (uf r 1579 1) 1581 10).2 106 3 + 1)).1 (ua (uf (uf (uf r 1579 1) 1581 10) 1580 (r.1 1536)) 106 3 ((uf (uf r 1579 1) 1581 10).2 106 3 + 1)).2 := rI_a I1 (by decide)
  obtain ⟨t0, t1⟩ := ri_thg I3
  have ea : ∀ g, (ua (uf (uf (uf r 1579 1) 1581 10) 1580 (r.1 1536)) 106 3 ((uf (uf r 1579 1) 1581 10).2 106 3 + 1)).1 g = (uf (uf (uf r 1579 1) 1581 10) 1580 (r.1 1536)).1 g := fun g => rfl
  have er : ∀ x, x ≠ 106 → (ua (uf (uf (uf r 1579 1) 1581 10) 1580 (r.1 1536)) 106 3 ((uf (uf r 1579 1) 1581 10).2 106 3 + 1)).2 x = r.2 x := fun x hx => ua_n hx
  generalize ua (uf (uf (uf r 1579 1) 1581 10) 1580 (r.1 1536)) 106 3 ((uf (uf r 1579 1) 1581 10).2 106 3 + 1) = R at I3 t0 t1 ea er
  have v81 : R.1 1581 = 10 := by rw [ea, uf_n (by decide), uf_e]
  have v80 : R.1 1580 = r.1 1536 := by rw [ea, uf_e]
  have v79 : R.1 1579 = 1 := by rw [ea, uf_n (by decide), uf_n (by decide), uf_e]
  have vo : ∀ g, g ≠ 1580 → g ≠ 1581 → g ≠ 1579 → R.1 g = r.1 g := fun g h1 h2 h3 => by rw [ea, uf_n h1, uf_n h2, uf_n h3]
  obtain ⟨q1, ⟨g1, g2, g3, g4⟩, d, s1, ⟨k, H, a1, a2, a3, a4, a5⟩, p1⟩ := h
  obtain ⟨b1, b2, b3, b4⟩ := a3 h1
  rw [if_pos c0] at b4
  have n1 : ¬ (1 : Int32) = 0 := by decide
  have t10 : (10 : Int32).toInt = 10 := rfl
  have hcl : ¬ r.1 1577 = 0 := by rw [h1]; decide
  have eA : nAr R = nAr r := nAr_c (vo 1536 (by decide) (by decide) (by decide)) (vo 1554 (by decide) (by decide) (by decide)) (er 56 (by decide))
  have eF : nFl R = nFl r := by unfold nFl; rw [vo 1574 (by decide) (by decide) (by decide)]
  have nT := jN_toInt t0
  have hPR : nP D c w R := by
    refine ⟨nQ_c (er 51 (by decide)) (er 50 (by decide)) (vo 1551 (by decide) (by decide) (by decide)) (er 54 (by decide)) q1, ⟨fun k th x1 x2 x3 x4 x5 => ?_, ?_, fun k hk e => ?_, fun k hk e => ?_⟩, nD_c (fun g hg => vo g (by revert hg; revert g; decide) (by revert hg; revert g; decide) (by revert hg; revert g; decide)) (fun x hx => er x (by revert hx; revert x; decide)) d, nS_c (fun g hg => vo g (by revert hg; revert g; decide) (by revert hg; revert g; decide) (by revert hg; revert g; decide)) (fun x hx => er x (by revert hx; revert x; decide)) (fun hc => by rw [er 91 (by decide)]; exact s1.2.2.2.2.1 hc) s1, ⟨0, H, a1, ?_, ?_, ?_, ?_⟩, nK_c (vo 1536 (by decide) (by decide) (by decide)) (vo 1584 (by decide) (by decide) (by decide)) (fun x hx => er x (by revert hx; revert x; decide)) p1⟩
    · rw [er 51 (by decide)] at x1
      rw [er 50 (by decide)] at x2
      rw [vo 1551 (by decide) (by decide) (by decide)] at x3
      rw [er 52 (by decide)] at x5
      have := g1 k th x1 x2 x3 x4 x5
      rw [vo 1536 (by decide) (by decide) (by decide), v80]; omega
    · rw [vo 1551 (by decide) (by decide) (by decide), er 52 (by decide), er 54 (by decide)]; exact g2
    · rw [vo 1554 (by decide) (by decide) (by decide)] at hk
      rw [er 52 (by decide), er 55 (by decide)] at e
      have := g3 k hk e
      rw [er 56 (by decide), v80]; omega
    · rw [vo 1559 (by decide) (by decide) (by decide)] at hk
      rw [er 57 (by decide)] at e
      have := g4 k hk e
      rw [er 60 (by decide), v80]; omega
    · rw [vo 1577 (by decide) (by decide) (by decide)]; exact a2
    · intro _
      rw [v81, v80, v79, t10, if_neg n1]
      exact ⟨Nat.zero_le _, rfl, by omega, by omega⟩
    · rw [vo 1551 (by decide) (by decide) (by decide), vo 1606 (by decide) (by decide) (by decide)]; exact a4
    · rw [eA, eF, vo 1559 (by decide) (by decide) (by decide), vo 1551 (by decide) (by decide) (by decide), vo 1606 (by decide) (by decide) (by decide), vo 1536 (by decide) (by decide) (by decide)]; exact a5
  refine nP_puts (p := 0) hPR I3 hD (by decide) (Or.inl ⟨rfl, rfl, by rw [v80, vo 1536 (by decide) (by decide) (by decide)]⟩) (by rw [vo 1577 (by decide) (by decide) (by decide)]; exact hcl) ⟨0, H + 1, by omega, ?_, ?_, ?_, ?_⟩
  · rw [uf_n (by decide), vo 1577 (by decide) (by decide) (by decide)]; exact fun e => absurd e hcl
  · intro _
    rw [uf_n (by decide), uf_n (by decide), uf_n (by decide), v81, v80, v79, t10, if_neg n1]
    exact ⟨Nat.zero_le _, rfl, by omega, by omega⟩
  · rw [uf_e, uf_n (by decide), vo 1606 (by decide) (by decide) (by decide), jN_add1 t0 (by omega), vo 1551 (by decide) (by decide) (by decide)]; omega
  · have eA2 : nAr (uf R 1551 (R.1 1551 + 1)) = nAr R := nAr_c (uf_n (by decide)) (uf_n (by decide)) rfl
    have eF2 : nFl (uf R 1551 (R.1 1551 + 1)) = nFl R := by unfold nFl; rw [uf_n (by decide)]
    rw [eA2, eF2, eA, eF, uf_e, uf_n (by decide), uf_n (by decide), uf_n (by decide), vo 1559 (by decide) (by decide) (by decide), jN_add1 t0 (by omega), vo 1551 (by decide) (by decide) (by decide), vo 1606 (by decide) (by decide) (by decide), vo 1536 (by decide) (by decide) (by decide)]; omega
/-- the client's state, behind hello -/
theorem nP_1577 (h : nP D c w r) (h62 : ¬ r.1 1562 = 0) {v : Int32} (hv : v = 2 ∨ v = 4 ∨ v = 5) (h91 : v = 2 → ¬ r.2 91 0 = 0) : nP D c w (uf r 1577 v) := by
  obtain ⟨q1, g, d, ⟨s1, s2, s3, s4, s5, s6⟩, ⟨k, H, a1, a2, a3, a4, a5⟩, p1⟩ := h
  have hu : ∀ g, g ≠ 1577 → (uf r 1577 v).1 g = r.1 g := fun g hg => uf_n hg
  have e77 : (uf r 1577 v).1 1577 = v := uf_e
  have n0 : ¬ v = 0 := by rcases hv with e | e | e <;> rw [e] <;> decide
  have n1 : ¬ v = 1 := by rcases hv with e | e | e <;> rw [e] <;> decide
  have n3 : ¬ v = 3 := by rcases hv with e | e | e <;> rw [e] <;> decide
  refine ⟨q1, nH_c (r := r) (fun g hg => hu g (by revert hg; revert g; decide)) (fun _ _ => rfl) g, nD_c (r := r) (fun g hg => hu g (by revert hg; revert g; decide)) (fun _ _ => rfl) d, ⟨s1, ?_, fun e => absurd e h62, fun e => absurd (e77.symm.trans e) n0, fun e => ?_, fun e => absurd (e77.symm.trans e) n3⟩, ⟨k, H, a1, fun e => absurd (e77.symm.trans e) n0, fun e => absurd (e77.symm.trans e) n1, a4, a5⟩, p1⟩
  · rw [e77]
    rcases hv with e | e | e
    · exact Or.inr (Or.inr (Or.inl e))
    · exact Or.inr (Or.inr (Or.inr (Or.inr (Or.inl e))))
    · exact Or.inr (Or.inr (Or.inr (Or.inr (Or.inr e))))
  · rw [e77] at e
    rcases e with e | e
    · exact h91 e
    · exact absurd e n3
theorem nP_arrC (hD : 0 ≤ D) (J : JJ n M r TL CL) (hk : kI t s q z r) (h : nP D c w r) {m k : Nat} (hk3 : k < 3600) (hm : j_mC n M r m k) (hkA : k < jN (r.1 1559)) (hcs : r.1 1577 = 1 ∨ r.1 1577 = 2 ∨ r.1 1577 = 3) (hA : r.2 57 k = 6 → r.1 1577 = 1 → r.2 91 0 = 0 → (r.1 1536).toInt - (r.1 1580).toInt ≤ 140) (hT : r.2 57 k = 7 → jN (r.2 58 k) < 3600 ∧ kTld r (jN (r.2 58 k))) : nP D c w (qF_arrivesAtClient (nI k) r) := by
  have hM := h.2.2.2.1.2.2.2.2.1
  have s3 := h.2.2.2.1.2.2.1
  have b58 := ri_A hk.1 (x := 58) (lo := 0) (hi := 3599) (by decide) k
  have i58 := jI_jN b58.1
  obtain ⟨m0, m1, m3, m4, mk⟩ := hm
  rcases mk with ⟨k1, k2, k3⟩ | ⟨k1, k2, k3, k4⟩ | ⟨k1, k2, k3, b, k4, k5⟩ | ⟨k1, k2, k3⟩ | ⟨k1, k2, k3⟩
  · rw [q_arr5 hk3 k1]
    by_cases c1 : r.1 1577 = 1 ∧ r.1 1579 = 0
    · rw [if_pos c1]; exact nP_cook hD c1.1 c1.2 hk h
    · rw [if_neg c1]; exact h
  · rw [q_arr6 hk3 k1]
    have h62 : ¬ r.1 1562 = 0 := fun e => by
      have := (s3 e).2.1 k hkA
      rw [k1] at this; exact absurd this (by decide)
    by_cases c1 : r.1 1577 = 1
    · rw [if_pos c1]
      obtain ⟨-, -, F, z4, z5⟩ := j_hearAccept (x := z_fi M 519 m) (y := if r.2 58 k = 1 then 1 else 0) J (by rw [c1]; decide) hk (by
        rw [k4]
        by_cases c : r.2 58 k = 1
        · rw [if_pos c]; exact ⟨fun hh => absurd c hh, fun hh => absurd hh (by decide)⟩
        · rw [if_neg c]; exact ⟨fun _ => rfl, fun _ => c⟩) (fun hz => hA k1 c1 hz)
      generalize qF_hearsAccept (if r.2 58 k = 1 then 1 else 0) r = R at F z4 z5
      have hX : nP D c w (ua r 91 0 1) := nP_c (r := r) (fun _ _ => rfl) (fun x hx => ua_n (by revert hx; revert x; decide)) (fun _ => by rw [ua2, if_pos rfl, if_pos rfl]; decide) h
      have hY := nP_1577 (v := 2) hX h62 (Or.inl rfl) (fun _ => by rw [ua2, if_pos rfl, if_pos rfl]; decide)
      refine nP_c (r := uf (ua r 91 0 1) 1577 2) (fun g hg => ?_) (fun x hx => ?_) (fun _ => z5) hY
      · by_cases e : g = 1577
        · rw [e, uf_e, z4]
        · rw [uf_n e]; exact F.1 g (fun h => e (List.mem_singleton.mp h))
      · rw [uf2, ua_n (by revert hx; revert x; decide)]
        exact F.2 x (by revert hx; revert x; decide)
    · rw [if_neg c1]; exact h
  · rw [q_arr7 hk3 k1]
    by_cases c1 : r.1 1577 = 2 ∨ r.1 1577 = 3
    · rw [if_pos c1]
      obtain ⟨T1, T2⟩ := hT k1
      rw [← i58]
      obtain ⟨-, -, F, z4⟩ := j_hearAck T1 J hk k5 T2 (hM c1)
      exact nP_c (fun g hg => F.1 g (by revert hg; revert g; decide)) (fun x hx => F.2 x (by revert hx; revert x; decide)) (fun _ => z4) h
    · rw [if_neg c1]; exact h
  · rw [q_arr8 hk3 k1]
    split
    · exact h
    · exact nP_fr (q_frua (Fs := []) (Rs := [92]) (by decide) q_fr0) (by decide) (by decide) (by decide) h
  · rw [q_arr9 hk3 k1]
    have h62 : ¬ r.1 1562 = 0 := fun e => by
      have := (s3 e).2.1 k hkA
      rw [k1] at this; exact absurd this (by decide)
    split
    · exact h
    · exact nP_1577 h h62 (Or.inr (Or.inr rfl)) (fun e => absurd e (by decide))
end NPI
