/-! ===== WHAT NETWORK AND SERVER KEEP TO: the client sends, says hello, loses, closes ===== -/
section NPC
variable {n : Nat} {M M0 M1 M2 M3 : z_Mem} {r r1 r2 : q_R} {TL CL : List Nat} {t s q z c w : Nat} {D : Int}
theorem nC_snd (h : nC c w r) {P sN a m : Nat} {b : Int32} (hP : r.1 1606 = nI P) (hP4 : P < 400) (h0 : 0 ≤ (r.1 1551).toInt) (h1 : (r.1 1551).toInt < 1300) : nC c w (q_sn P sN a m b r) ∧ nC c w (uf (q_sn P sN a m b r) 1551 ((q_sn P sN a m b r).1 1551 + 1)) := by
  obtain ⟨f1, f2, f3, f4, f5⟩ := q_snF (r := r) (P := P) (sN := sN) (a := a) (m := m) (b := b)
  generalize q_sn P sN a m b r = R at f1 f2 f3 f4 f5
  have pN : jN (r.1 1606) = P := by rw [hP]; exact jN_nI (by omega)
  have pN1 : jN (R.1 1606) = P + 1 := by rw [f2]; exact jN_nI (by omega)
  have eA : nAr R = nAr r := nAr_c (f1 1536 (by decide)) (f1 1554 (by decide)) (f3 56 (by decide))
  have eF : nFl R = nFl r := by unfold nFl; rw [f1 1574 (by decide)]
  obtain ⟨k, H, a1, a2, a3, a4, a5⟩ := h
  rw [pN] at a4 a5
  refine ⟨⟨k, H, a1, ?_, ?_, ?_, ?_⟩, ⟨k, H, a1, ?_, ?_, ?_, ?_⟩⟩
  · rw [f1 1577 (by decide)]; exact a2
  · rw [f1 1577 (by decide), f1 1581 (by decide), f1 1580 (by decide), f1 1579 (by decide)]; exact a3
  · rw [f1 1551 (by decide), pN1]; omega
  · rw [f1 1559 (by decide), eF, f1 1551 (by decide), pN1, f1 1536 (by decide), eA]; omega
  · rw [uf_n (by decide), f1 1577 (by decide)]; exact a2
  · rw [uf_n (by decide), uf_n (by decide), uf_n (by decide), uf_n (by decide), f1 1577 (by decide), f1 1581 (by decide), f1 1580 (by decide), f1 1579 (by decide)]; exact a3
  · rw [uf_e, uf_n (by decide), f1 1551 (by decide), pN1, jN_add1 h0 (by omega)]; omega
  · have eA2 : nAr (uf R 1551 (R.1 1551 + 1)) = nAr R := nAr_c (uf_n (by decide)) (uf_n (by decide)) rfl
    have eF2 : nFl (uf R 1551 (R.1 1551 + 1)) = nFl R := by unfold nFl; rw [uf_n (by decide)]
    rw [eA2, eF2, eA, eF, uf_e, uf_n (by decide), uf_n (by decide), uf_n (by decide), f1 1559 (by decide), f1 1551 (by decide), pN1, f1 1536 (by decide), jN_add1 h0 (by omega)]; omega
theorem nP_sn (h : nP D c w r) {P sN a m : Nat} {b : Int32} (hP : r.1 1606 = nI P) (hP4 : P < 400) (h0 : 0 ≤ (r.1 1551).toInt) (h1 : (r.1 1551).toInt < 1300) : nP D c w (q_sn P sN a m b r) := by
  have hC := (nC_snd (sN := sN) (a := a) (m := m) (b := b) h.2.2.2.2.1 hP hP4 h0 h1).1
  obtain ⟨f1, f2, f3, f4, f5⟩ := q_snF (r := r) (P := P) (sN := sN) (a := a) (m := m) (b := b)
  have g6 := (q_snP (r := r) (P := P) (sN := sN) (a := a) (m := m) (b := b)).2.2.2.2.2.1
  generalize q_sn P sN a m b r = R at f1 f2 f3 f4 f5 g6 hC
  have pN : jN (r.1 1606) = P := by rw [hP]; exact jN_nI (by omega)
  have pN1 : jN (R.1 1606) = P + 1 := by rw [f2]; exact jN_nI (by omega)
  have pT : (r.1 1606).toInt = P := by rw [hP, jI_t (by omega)]
  have pT1 : (R.1 1606).toInt = P + 1 := by rw [f2, jI_t (by omega)]; rfl
  obtain ⟨q1, g, ⟨d1, d2, d3, d4, d5, d6, d7, d8⟩, s1, -, p1⟩ := h
  have g72 : ∀ j, j ≠ P → R.2 72 j = r.2 72 j := fun j hj => f4 72 j (by decide) (by decide) (by decide) hj
  refine ⟨nQ_c (f3 51 (by decide)) (f3 50 (by decide)) (f1 1551 (by decide)) (f3 54 (by decide)) q1, nH_c (fun g hg => f1 g (by revert hg; revert g; decide)) (fun x hx => f3 x (by revert hx; revert x; decide)) g, ⟨fun th hth e => ?_, fun k hk => ?_, jTK_c (f1 1572 (by decide)) (f3 63 (by decide)) d3, fun k hk e => ?_, fun a' ha e => ?_, fun i hi => ?_, ?_, ?_⟩, nS_c (fun g hg => f1 g (by revert hg; revert g; decide)) (fun x hx => f3 x (by revert hx; revert x; decide)) (fun hc => by rw [f3 91 (by decide)]; exact s1.2.2.2.2.1 hc) s1, hC, nK_c (f1 1536 (by decide)) (f1 1584 (by decide)) (fun x hx => f3 x (by revert hx; revert x; decide)) p1⟩
  · rw [f1 1551 (by decide)] at hth
    rw [f3 52 (by decide)] at e
    rw [f3 53 (by decide), f3 54 (by decide), pN1]
    have := d1 th hth e
    exact ⟨by omega, this.2⟩
  · rw [f1 1554 (by decide)] at hk
    have hd := d2 k hk
    rw [f3 55 (by decide), f1 1551 (by decide), f3 52 (by decide), f3 53 (by decide), f3 56 (by decide)]
    refine ⟨hd.1, fun e j hj => ?_⟩
    have h5 := (d1 _ hd.1 e).1
    rw [g72 _ (by omega)]
    exact hd.2 e j hj
  · rw [f3 63 (by decide)] at e
    have hd := d4 k hk e
    rw [pN1, f1 1536 (by decide)]
    exact ⟨by omega, fun j hj => by rw [g72 j (by omega)]; exact hd.2 j hj⟩
  · rw [f1 1559 (by decide)] at ha
    rw [f3 57 (by decide)] at e
    rw [f3 58 (by decide), f1 1561 (by decide), f3 60 (by decide)]
    have hd := d5 a' ha e
    refine ⟨hd.1, fun i hi => ?_⟩
    rw [f3 61 (by decide)] at hi
    have hh := hd.2 i hi
    rw [f3 61 (by decide), pT1]
    refine ⟨by omega, fun k hk => ?_⟩
    rw [g72 k (by omega)]
    exact hh.2 k hk
  · rw [pN1] at hi
    by_cases ci : i = P
    · rw [ci, g6]; exact p1.2.1
    · rw [f4 78 i (by decide) (by decide) (by decide) ci]; exact d6 i (by omega)
  · rw [f1 1573 (by decide)]; exact d7
  · rw [f1 1568 (by decide)]; exact d8
theorem ri_th1 (I : rf_I t s q z r.1 r.2) {P : Nat} (hP : r.1 1606 = nI P) (hP4 : P < 400) : 0 ≤ (r.1 1551).toInt ∧ (r.1 1551).toInt < 1300 := by
  have b51 := ri_F I (g := 1551) (lo := 0) (hi := 1300) (by decide)
  have b80 := ri_F I (g := 1580) (lo := 0) (hi := 2000) (by decide)
  have c12 := I.2.2.2.2.2.2.2.2.2.2.2.1
  rw [hP, jI_t (by omega)] at c12
  omega
theorem nP_sends (h : nP D c w r) (hk : kI t s q z r) (hcl : ¬ r.1 1577 = 0) (hD : 0 ≤ D) {P sN a m : Nat} {b : Int32} (hP : r.1 1606 = nI P) (hP4 : P < 400) (hs : sN < 4) (ham : a + m ≤ 200) : nP D c w (qF_sends 0 (nI sN) (nI a) (nI m) b r) ∧ (qF_sends 0 (nI sN) (nI a) (nI m) b r).1 1577 = r.1 1577 := by
  obtain ⟨t0, t1⟩ := ri_th1 hk.1 hP hP4
  rw [q_sendsE hP hP4 hs ham]
  obtain ⟨f1, f2, f3, f4, f5⟩ := q_snF (r := r) (P := P) (sN := sN) (a := a) (m := m) (b := b)
  have h1 := nP_sn (sN := sN) (a := a) (m := m) (b := b) h hP hP4 t0 t1
  have hC := (nC_snd (sN := sN) (a := a) (m := m) (b := b) h.2.2.2.2.1 hP hP4 t0 t1).2
  have I1 := rI_snd (b := b) hk.1 hP hP4 hs ham
  refine ⟨nP_puts (p := 0) h1 I1 hD (by decide) (Or.inr (Or.inl ⟨rfl, rfl, ?_⟩)) (by rw [f1 1577 (by decide)]; exact hcl) hC, ?_⟩
  · rw [f2, jN_nI (by omega), jN_nI (by omega)]; omega
  · rw [(q_putdF hP4).1 1577 (by decide), f1 1577 (by decide)]
/-- the network's side of the client's doing: hello, established or closing -/
def nY (D : Int) (c w : Nat) (r : q_R) : Prop := nP D c w r ∧ ¬ r.1 1577 = 0
theorem nY_fr {Fs Rs : List Nat} (H : q_fr Fs Rs r r1) (h1 : ∀ g, g ∈ nPF → g ∉ Fs) (h2 : ∀ x, x ∈ nPR → x ∉ Rs) (h91 : 91 ∉ Rs) (h : nY D c w r) : nY D c w r1 := ⟨nP_fr H h1 h2 h91 h.1, by rw [H.1 1577 (h1 1577 (by decide))]; exact h.2⟩
theorem nY_St (hD : 0 ≤ D) : kSt t s q z (nY D c w) := by
  refine ⟨fun r x j v hx h => ?_, fun r P sN a m b hk hP hP4 hs ham h => ?_, fun r l j v h => ?_⟩
  · refine nY_fr (q_frua (Fs := []) (Rs := [x]) (List.mem_singleton.mpr rfl) q_fr0) (fun _ _ => List.not_mem_nil) (fun y hy hc => ?_) (fun hc => ?_) h
    · have e := List.mem_singleton.mp hc
      rw [e] at hy
      exact (show ∀ x, x ∈ [96, 105, 106] → x ∈ nPR → False from by decide) x hx hy
    · have e := List.mem_singleton.mp hc
      exact (show ∀ x, x ∈ [96, 105, 106] → 91 = x → False from by decide) x hx e
  · obtain ⟨k1, k2⟩ := nP_sends (b := b) h.1 hk h.2 hD hP hP4 hs ham
    exact ⟨k1, by rw [k2]; exact h.2⟩
  · exact nY_fr (Fs := [1590]) (Rs := [67]) (q_frua (by decide) (q_fruf (by decide) q_fr0)) (by decide) (by decide) (by decide) h
/-- a hello is said again -/
theorem nY_re (hD : 0 ≤ D) (h1 : r.1 1577 = 1) (hw : (r.1 1580).toInt + (r.1 1581).toInt ≤ (r.1 1536).toInt) (hk : kI t s q z r) (h : nY D c w r) : nY D c w (qF_saysHello (uf r 1581 (r.1 1581 * 2))) := by
  obtain ⟨I1, I2, tv⟩ := rI_re hk.1 h1 hw
  have ck : (uf r 1581 (r.1 1581 * 2)).1 1579 = 0 ∨ (uf r 1581 (r.1 1581 * 2)).1 1579 = 1 := by
    rw [uf_n (by decide)]; exact ri_ck hk.1
  have bn := ri_now hk.1
  have b80 := ri_F hk.1 (g := 1580) (lo := 0) (hi := 2000) (by decide)
  have b51 := ri_F hk.1 (g := 1551) (lo := 0) (hi := 1300) (by decide)
  have n51 := jN_toInt b51.1
  rw [q_hello _ ck]
  rw [show (uf r 1581 (r.1 1581 * 2)).1 1536 = r.1 1536 from rfl]
  have I3 : rf_I (t + 1) (s + 1) (q + 1) z (ua (uf (uf r 1581 (r.1 1581 * 2)) 1580 (r.1 1536)) 106 3 ((uf r 1581 (r.1 1581 * 2)).2 106 3 + 1)).1 (ua (uf (uf r 1581 (r.1 1581 * 2)) 1580 (r.1 1536)) 106 3 ((uf r 1581 (r.1 1581 * 2)).2 106 3 + 1)).2 := rI_a I1 (by decide)
  obtain ⟨t0, t1⟩ := ri_thg I3
  have ea : ∀ g, (ua (uf (uf r 1581 (r.1 1581 * 2)) 1580 (r.1 1536)) 106 3 ((uf r 1581 (r.1 1581 * 2)).2 106 3 + 1)).1 g = (uf (uf r 1581 (r.1 1581 * 2)) 1580 (r.1 1536)).1 g := fun g => rfl
  have er : ∀ x, x ≠ 106 → (ua (uf (uf r 1581 (r.1 1581 * 2)) 1580 (r.1 1536)) 106 3 ((uf r 1581 (r.1 1581 * 2)).2 106 3 + 1)).2 x = r.2 x := fun x hx => ua_n hx
  generalize ua (uf (uf r 1581 (r.1 1581 * 2)) 1580 (r.1 1536)) 106 3 ((uf r 1581 (r.1 1581 * 2)).2 106 3 + 1) = R at I3 t0 t1 ea er
  have v81 : R.1 1581 = r.1 1581 * 2 := by rw [ea, uf_n (by decide), uf_e]
  have v80 : R.1 1580 = r.1 1536 := by rw [ea, uf_e]
  have vo : ∀ g, g ≠ 1580 → g ≠ 1581 → R.1 g = r.1 g := fun g h1 h2 => by rw [ea, uf_n h1, uf_n h2]
  obtain ⟨⟨q1, ⟨g1, g2, g3, g4⟩, d, s1, ⟨k, H, a1, a2, a3, a4, a5⟩, p1⟩, hcl⟩ := h
  obtain ⟨b1, b2, b3, b4⟩ := a3 h1
  have hk8 : k + 1 ≤ 8 := by
    have hp : 10 * (2 ^ k : Nat) ≤ 2000 := by omega
    have : ∀ k : Nat, k ≤ 8 → 10 * (2 ^ k : Nat) ≤ 1000 → k + 1 ≤ 8 := by decide
    exact this k b1 (by omega)
  have hpow : (2 ^ (k + 1) : Nat) = 2 * 2 ^ k := by rw [Nat.pow_succ]; omega
  have eA : nAr R = nAr r := nAr_c (vo 1536 (by decide) (by decide)) (vo 1554 (by decide) (by decide)) (er 56 (by decide))
  have eF : nFl R = nFl r := by unfold nFl; rw [vo 1574 (by decide) (by decide)]
  have nT := jN_toInt t0
  have hPR : nP D c w R := by
    refine ⟨nQ_c (er 51 (by decide)) (er 50 (by decide)) (vo 1551 (by decide) (by decide)) (er 54 (by decide)) q1, ⟨fun k th x1 x2 x3 x4 x5 => ?_, ?_, fun k hk e => ?_, fun k hk e => ?_⟩, nD_c (fun g hg => vo g (by revert hg; revert g; decide) (by revert hg; revert g; decide)) (fun x hx => er x (by revert hx; revert x; decide)) d, nS_c (fun g hg => vo g (by revert hg; revert g; decide) (by revert hg; revert g; decide)) (fun x hx => er x (by revert hx; revert x; decide)) (fun hc => by rw [er 91 (by decide)]; exact s1.2.2.2.2.1 hc) s1, ⟨k + 1, H, a1, ?_, ?_, ?_, ?_⟩, nK_c (vo 1536 (by decide) (by decide)) (vo 1584 (by decide) (by decide)) (fun x hx => er x (by revert hx; revert x; decide)) p1⟩
    · rw [er 51 (by decide)] at x1
      rw [er 50 (by decide)] at x2
      rw [vo 1551 (by decide) (by decide)] at x3
      rw [er 52 (by decide)] at x5
      have := g1 k th x1 x2 x3 x4 x5
      rw [vo 1536 (by decide) (by decide), v80]; omega
    · rw [vo 1551 (by decide) (by decide), er 52 (by decide), er 54 (by decide)]; exact g2
    · rw [vo 1554 (by decide) (by decide)] at hk
      rw [er 52 (by decide), er 55 (by decide)] at e
      have := g3 k hk e
      rw [er 56 (by decide), v80]; omega
    · rw [vo 1559 (by decide) (by decide)] at hk
      rw [er 57 (by decide)] at e
      have := g4 k hk e
      rw [er 60 (by decide), v80]; omega
    · rw [vo 1577 (by decide) (by decide)]; exact a2
    · intro _
      rw [v81, v80, vo 1579 (by decide) (by decide), tv, hpow]
      exact ⟨hk8, by omega, by omega, by omega⟩
    · rw [vo 1551 (by decide) (by decide), vo 1606 (by decide) (by decide)]; exact a4
    · rw [eA, eF, vo 1559 (by decide) (by decide), vo 1551 (by decide) (by decide), vo 1606 (by decide) (by decide), vo 1536 (by decide) (by decide)]; exact a5
  have hH : H + 1 ≤ 18 := by
    have : (if r.1 1579 = 0 then 0 else 9 : Nat) ≤ 9 := by split <;> omega
    omega
  refine ⟨nP_puts (p := 0) hPR I3 hD (by decide) (Or.inl ⟨rfl, rfl, by rw [v80, vo 1536 (by decide) (by decide)]⟩) (by rw [vo 1577 (by decide) (by decide)]; exact hcl) ⟨k + 1, H + 1, hH, ?_, ?_, ?_, ?_⟩, ?_⟩
  · rw [uf_n (by decide), vo 1577 (by decide) (by decide)]; exact fun e => absurd e hcl
  · intro _
    rw [uf_n (by decide), uf_n (by decide), uf_n (by decide), v81, v80, vo 1579 (by decide) (by decide), tv, hpow]
    exact ⟨hk8, by omega, by omega, by omega⟩
  · rw [uf_e, uf_n (by decide), vo 1606 (by decide) (by decide), jN_add1 t0 (by omega), vo 1551 (by decide) (by decide)]; omega
  · have eA2 : nAr (uf R 1551 (R.1 1551 + 1)) = nAr R := nAr_c (uf_n (by decide)) (uf_n (by decide)) rfl
    have eF2 : nFl (uf R 1551 (R.1 1551 + 1)) = nFl R := by unfold nFl; rw [uf_n (by decide)]
    rw [eA2, eF2, eA, eF, uf_e, uf_n (by decide), uf_n (by decide), uf_n (by decide), vo 1559 (by decide) (by decide), jN_add1 t0 (by omega), vo 1551 (by decide) (by decide), vo 1606 (by decide) (by decide), vo 1536 (by decide) (by decide)]; omega
  · rw [(q_putsF (by decide)).1 1577 (by decide), vo 1577 (by decide) (by decide)]; exact hcl
theorem nY_Lk (hD : 0 ≤ D) : kLk t s q z (nY D c w) := by
  refine ⟨nY_St hD, fun r r1 F h => nY_fr F (by decide) (by decide) (by decide) h, fun r h1 hw hk h => nY_re hD h1 hw hk h, fun r h3 h => ?_, fun r h h3 => h.1.2.2.2.1.2.2.2.2.2 h3⟩
  obtain ⟨⟨q1, g, d, ⟨s1, s2, s3, s4, s5, s6⟩, ⟨k, H, a1, a2, a3, a4, a5⟩, p1⟩, hcl⟩ := h
  have hu : ∀ g, g ≠ 1577 → (uf r 1577 4).1 g = r.1 g := fun g hg => uf_n hg
  have hv : (uf r 1577 4).1 1577 = 4 := uf_e
  have h62 : ¬ r.1 1562 = 0 := fun e => by
    rcases (s3 e).2.2 with h | h
    · exact hcl h
    · rw [h] at h3; exact absurd h3 (by decide)
  have n0 : ¬ (4 : Int32) = 0 := by decide
  have n1 : ¬ (4 : Int32) = 1 := by decide
  have n2 : ¬ ((4 : Int32) = 2 ∨ (4 : Int32) = 3) := by decide
  have n3 : ¬ (4 : Int32) = 3 := by decide
  refine ⟨⟨q1, g, d, ⟨s1, ?_, fun e => absurd e h62, fun e => absurd (hv.symm.trans e) n0, fun e => absurd (by rw [hv] at e; exact e) n2, fun e => absurd (hv.symm.trans e) n3⟩, ⟨k, H, a1, fun e => absurd (hv.symm.trans e) n0, fun e => absurd (hv.symm.trans e) n1, a4, a5⟩, p1⟩, fun e => absurd (hv.symm.trans e) n0⟩
  rw [hv]
  exact Or.inr (Or.inr (Or.inr (Or.inr (Or.inl rfl))))
end NPC
