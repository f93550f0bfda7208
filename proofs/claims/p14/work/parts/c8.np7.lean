/-! ===== WHAT NETWORK AND SERVER KEEP TO: something arrives at the server (2) ===== -/
section NPG
variable {n : Nat} {M M0 M1 M2 M3 : z_Mem} {r r1 r2 : q_R} {TL CL : List Nat} {t s q z c w w0 : Nat} {D : Int}
theorem nP_d5 (h : nP D c w r) {i : Nat} (hi : i < 400) (hiP : i < jN (r.1 1606)) (hm : ∀ j, j ≤ i → (r.2 72 j).toInt < (r.1 1536).toInt) {sv mv : Int32} {F : Nat → Int32} (hsv : sv = 0 ∨ sv = 1) : nP D c w (q_d5 i F (if r.1 1572 ≤ nI i then nI i else r.1 1572) sv mv r) := by
  obtain ⟨g1, g2, g3, g4, g5⟩ := q_d5F (r := r) (i := i) (F := F) (mx := (if r.1 1572 ≤ nI i then nI i else r.1 1572)) (sv := sv) (mv := mv)
  generalize (q_d5 i F (if r.1 1572 ≤ nI i then nI i else r.1 1572) sv mv r) = R at g1 g2 g3 g4 g5
  have f1 : ∀ g, g ∈ [1536, 1551, 1554, 1559, 1561, 1562, 1568, 1574, 1577, 1579, 1580, 1581, 1582, 1584, 1606] → R.1 g = r.1 g := fun g hg => g1 g (by revert hg; revert g; decide) (by revert hg; revert g; decide) (by revert hg; revert g; decide)
  have f2 : ∀ x, x ∈ [41, 42, 49, 50, 51, 52, 53, 54, 55, 56, 57, 58, 60, 61, 72, 78, 91] → R.2 x = r.2 x := fun x hx => g4 x (by revert hx; revert x; decide) (by revert hx; revert x; decide) (by revert hx; revert x; decide)
  have ti : (nI i).toInt = i := jI_t (by omega)
  have mx : (R.1 1572).toInt = if (r.1 1572).toInt ≤ i then (i : Int) else (r.1 1572).toInt := by
    rw [g2]
    by_cases e : r.1 1572 ≤ nI i
    · have := i_le e rfl ti
      rw [if_pos e, if_pos this]; exact ti
    · have := i_nle e rfl ti
      rw [if_neg e, if_neg (by omega)]
  obtain ⟨q1, g, ⟨d1, d2, ⟨k1, k2, k3⟩, d4, d5, d6, d7, d8⟩, s1, c1, p1⟩ := h
  refine ⟨nQ_c (f2 51 (by decide)) (f2 50 (by decide)) (f1 1551 (by decide)) (f2 54 (by decide)) q1, nH_c (fun g hg => f1 g (by revert hg; revert g; decide)) (fun x hx => f2 x (by revert hx; revert x; decide)) g, ⟨?_, ?_, ⟨fun j hj => ?_, ?_, fun k hk hk4 => ?_⟩, fun k hk e => ?_, fun a ha e => ?_, ?_, ?_, ?_⟩, nS_c (fun g hg => f1 g (by revert hg; revert g; decide)) (fun x hx => f2 x (by revert hx; revert x; decide)) (fun hc => by rw [f2 91 (by decide)]; exact s1.2.2.2.2.1 hc) s1, nC_c (fun g hg => f1 g (by revert hg; revert g; decide)) (f2 56 (by decide)) c1, nK_c (f1 1536 (by decide)) (f1 1584 (by decide)) (fun x hx => f2 x (by revert hx; revert x; decide)) p1⟩
  · rw [f1 1551 (by decide), f1 1606 (by decide), f2 52 (by decide), f2 53 (by decide), f2 54 (by decide)]; exact d1
  · rw [f1 1554 (by decide), f1 1551 (by decide), f2 52 (by decide), f2 53 (by decide), f2 55 (by decide), f2 56 (by decide), f2 72 (by decide)]; exact d2
  · rw [g5]
    by_cases e : j = i
    · rw [if_pos e]; exact Or.inr rfl
    · rw [if_neg e]; exact k1 j hj
  · rw [mx]; split <;> omega
  · rw [mx] at hk
    rw [g5]
    by_cases e : (r.1 1572).toInt ≤ i
    · rw [if_pos e] at hk
      rw [if_neg (by omega)]; exact k3 k (by omega) hk4
    · rw [if_neg e] at hk
      rw [if_neg (by omega)]; exact k3 k (by omega) hk4
  · rw [g5] at e
    rw [f1 1606 (by decide), f2 72 (by decide), f1 1536 (by decide)]
    by_cases ek : k = i
    · rw [ek]; exact ⟨hiP, hm⟩
    · rw [if_neg ek] at e; exact d4 k hk e
  · rw [f1 1559 (by decide)] at ha
    rw [f2 57 (by decide)] at e
    rw [f2 58 (by decide), f2 60 (by decide), f1 1561 (by decide)]
    exact ⟨(d5 a ha e).1, nTld_c (f2 61 (by decide)) (f1 1606 (by decide)) (f2 72 (by decide)) (d5 a ha e).2⟩
  · rw [f1 1606 (by decide), f2 78 (by decide)]; exact d6
  · rw [g3]; exact hsv
  · rw [f1 1568 (by decide)]; exact d8
theorem q_d5sv {i : Nat} {F : Nat → Int32} {mx sv mv x : Int32} : uf (q_d5 i F mx sv mv r) 1573 x = q_d5 i F mx x mv r := by
  unfold q_d5
  refine Prod.ext (funext fun k => ?_) rfl
  show (if k = 1573 then x else if k = 1573 then sv else _) = (if k = 1573 then x else _)
  by_cases e : k = 1573
  · rw [if_pos e, if_pos e]
  · rw [if_neg e, if_neg e, if_neg e]
theorem nP_t194 (h : nP D c w0 r) (hw : w + 1 ≤ w0) (I : rf_I t s q z r.1 r.2) {i : Nat} (hi : i < 400) (hiP : i < jN (r.1 1606)) (hm : ∀ j, j ≤ i → (r.2 72 j).toInt < (r.1 1536).toInt) (h1 : (r.1 1561).toInt < 3600) (h59 : (r.1 1559).toInt < 3600) {p : Nat} (hp : p < 2) (hdp : r.1 1575 = nI p) (hs : r.1 1562 = 1) (hcl : ¬ r.1 1577 = 0) {mv t0 : Int32} {F : Nat → Int32} (Ix : rf_I t s q z (q_d5 i F (if r.1 1572 ≤ nI i then nI i else r.1 1572) (r.1 1573 + 1) mv r).1 (q_d5 i F (if r.1 1572 ≤ nI i then nI i else r.1 1572) (r.1 1573 + 1) mv r).2) : nP D c w (qF_takes_194 (nI i) t0 (uA (uf (ua (ua r 77 i 1) 63 i 1) 1576 mv) 64 F)) := by
  have eM : ∀ rr : q_R, qF_max (r.1 1572) (nI i) rr = ((if r.1 1572 ≤ nI i then nI i else r.1 1572), rr) := fun rr => by rw [qE_max]; split <;> rfl
  obtain ⟨g1, g2, g3, g4, g5⟩ := q_d5F (r := r) (i := i) (F := F) (mx := (if r.1 1572 ≤ nI i then nI i else r.1 1572)) (sv := r.1 1573 + 1) (mv := mv)
  have hA : nP D c w (qF_acknowledges (q_d5 i F (if r.1 1572 ≤ nI i then nI i else r.1 1572) (r.1 1573 + 1) mv r)) := by
    refine nP_ack (x := 0) (w0 := w0) (by rw [q_d5sv]; exact nP_d5 h hi hiP hm (Or.inl rfl)) (by omega) Ix ?_ ?_ hp ?_ ?_ ?_
    · rw [g1 1561 (by decide) (by decide) (by decide)]; exact h1
    · rw [g1 1559 (by decide) (by decide) (by decide)]; exact h59
    · rw [g1 1575 (by decide) (by decide) (by decide)]; exact hdp
    · rw [g1 1562 (by decide) (by decide) (by decide)]; exact hs
    · rw [g1 1577 (by decide) (by decide) (by decide)]; exact hcl
  have hF : ¬ r.1 1573 + 1 = 2 → nP D c w (uf (q_d5 i F (if r.1 1572 ≤ nI i then nI i else r.1 1572) (r.1 1573 + 1) mv r) 1574 ((q_d5 i F (if r.1 1572 ≤ nI i then nI i else r.1 1572) (r.1 1573 + 1) mv r).1 1536 + 3)) := fun hne => by
    refine nP_1574 (w0 := w0) (nP_d5 h hi hiP hm ?_) hw
    rcases h.2.2.1.2.2.2.2.2.2.1 with e | e
    · rw [e]; exact Or.inr rfl
    · rw [e] at hne; exact absurd rfl hne
  have hB := qE_takes_194 (nI i) t0 (uA (uf (ua (ua r 77 i 1) 63 i 1) 1576 mv) 64 F)
  replace hB := hB.trans (q_ste2 (eM _))
  rw [hB]
  show nP D c w (if (q_d5 i F (if r.1 1572 ≤ nI i then nI i else r.1 1572) (r.1 1573 + 1) mv r).2 79 (nI i).toNatClampNeg = 0 then (if t0 = 0 then qF_acknowledges (q_d5 i F (if r.1 1572 ≤ nI i then nI i else r.1 1572) (r.1 1573 + 1) mv r) else if (q_d5 i F (if r.1 1572 ≤ nI i then nI i else r.1 1572) (r.1 1573 + 1) mv r).1 1573 = 2 then qF_acknowledges (q_d5 i F (if r.1 1572 ≤ nI i then nI i else r.1 1572) (r.1 1573 + 1) mv r) else uf (q_d5 i F (if r.1 1572 ≤ nI i then nI i else r.1 1572) (r.1 1573 + 1) mv r) 1574 ((q_d5 i F (if r.1 1572 ≤ nI i then nI i else r.1 1572) (r.1 1573 + 1) mv r).1 1536 + 3)) else qF_acknowledges (q_d5 i F (if r.1 1572 ≤ nI i then nI i else r.1 1572) (r.1 1573 + 1) mv r))
  generalize (q_d5 i F (if r.1 1572 ≤ nI i then nI i else r.1 1572) (r.1 1573 + 1) mv r) = Y at hA hF g3 ⊢
  split
  · split
    · exact hA
    · split
      · exact hA
      · rename_i hne
        rw [g3] at hne
        exact hF hne
  · exact hA
/-- the server's row and counts: numbers stay within bounds -/
theorem rI_d5 (I : rf_I t s q z r.1 r.2) {i : Nat} (hi : i < 400) {F : Nat → Int32} {mx sv mv : Int32} : rf_I t s q z (q_d5 i F mx sv mv r).1 (q_d5 i F mx sv mv r).2 := by
  obtain ⟨g1, g2, g3, g4, g5⟩ := q_d5F (r := r) (i := i) (F := F) (mx := mx) (sv := sv) (mv := mv)
  generalize q_d5 i F mx sv mv r = R at g1 g2 g3 g4 g5
  have hu : ∀ k, k ≠ 1572 → k ≠ 1573 → k ≠ 1576 → R.1 k = r.1 k := g1
  obtain ⟨c1, c2, c3, c4, c5, c6, c7, c8, c9, c10, c11, c12⟩ := I
  exact ⟨c1.congr (fun x hx => g4 x (by revert hx; revert x; decide) (by revert hx; revert x; decide) (by revert hx; revert x; decide)), c2.congr (fun y hy => hu y (by revert hy; revert y; decide) (by revert hy; revert y; decide) (by revert hy; revert y; decide)), c3.congr (fun x hx => g4 x (by revert hx; revert x; decide) (by revert hx; revert x; decide) (by revert hx; revert x; decide)), c4.congr (fun x hx => g4 x (by revert hx; revert x; decide) (by revert hx; revert x; decide) (by revert hx; revert x; decide)) (fun y hy => hu y (by revert hy; revert y; decide) (by revert hy; revert y; decide) (by revert hy; revert y; decide)), c5.congr (fun x hx => g4 x (by revert hx; revert x; decide) (by revert hx; revert x; decide) (by revert hx; revert x; decide)), c6.congr (fun x hx => g4 x (by revert hx; revert x; decide) (by revert hx; revert x; decide) (by revert hx; revert x; decide)) (fun y hy => hu y (by revert hy; revert y; decide) (by revert hy; revert y; decide) (by revert hy; revert y; decide)), c7.congr (fun x hx => g4 x (by revert hx; revert x; decide) (by revert hx; revert x; decide) (by revert hx; revert x; decide)), fun _ => ⟨i, hi, by rw [g5, if_pos rfl]; decide⟩, c9.congr (fun y hy => hu y (by revert hy; revert y; decide) (by revert hy; revert y; decide) (by revert hy; revert y; decide)), c10.congr (fun x hx => g4 x (by revert hx; revert x; decide) (by revert hx; revert x; decide) (by revert hx; revert x; decide)), c11.congr (fun x hx => g4 x (by revert hx; revert x; decide) (by revert hx; revert x; decide) (by revert hx; revert x; decide)) (fun y hy => hu y (by revert hy; revert y; decide) (by revert hy; revert y; decide) (by revert hy; revert y; decide)), c12.congr (fun x hx => g4 x (by revert hx; revert x; decide) (by revert hx; revert x; decide) (by revert hx; revert x; decide)) (fun y hy => hu y (by revert hy; revert y; decide) (by revert hy; revert y; decide) (by revert hy; revert y; decide))⟩
theorem nP_t99 (h : nP D c w0 r) (hw : w + 1 ≤ w0) (I : rf_I t s q z r.1 r.2) {i : Nat} (hi : i < 400) (hiP : i < jN (r.1 1606)) (hm : ∀ j, j ≤ i → (r.2 72 j).toInt < (r.1 1536).toInt) (h1 : (r.1 1561).toInt < 3600) (h59 : (r.1 1559).toInt < 3600) {p : Nat} (hp : p < 2) (hdp : r.1 1575 = nI p) (hs : r.1 1562 = 1) (hcl : ¬ r.1 1577 = 0) : nP D c w (qF_takes_99 (nI i) r) := by
  have e3 := ri_A I (x := 73) (lo := 0) (hi := 3) (by decide) i
  have e4 := ri_A I (x := 74) (lo := 0) (hi := 200) (by decide) i
  have e5 := ri_A I (x := 75) (lo := 0) (hi := 200) (by decide) i
  have c5 := I.2.2.2.2.1 i
  have n3 := jN_toInt e3.1
  have n4 := jN_toInt e4.1
  have n5 := jN_toInt e5.1
  rw [q_t99 (jI_jN e5.1).symm (jI_jN e4.1).symm (jI_jN e3.1).symm hi (by omega) (by omega)]
  split
  · exact nP_t194 h hw I hi hiP hm h1 h59 hp hdp hs hcl (rI_d5 I hi)
  · exact nP_t194 h hw I hi hiP hm h1 h59 hp hdp hs hcl (rI_d5 I hi)
theorem nP_t43 (h : nP D c w0 r) (hw : w + 1 ≤ w0) (I : rf_I t s q z r.1 r.2) {i : Nat} (hi : i < 400) (hiP : i < jN (r.1 1606)) (hm : ∀ j, j ≤ i → (r.2 72 j).toInt < (r.1 1536).toInt) (h1 : (r.1 1561).toInt < 3600) (h59 : (r.1 1559).toInt < 3600) {p : Nat} (hp : p < 2) (hdp : r.1 1575 = nI p) (hs : r.1 1562 = 1) (hcl : ¬ r.1 1577 = 0) : nP D c w (qF_takes_43 (nI i) r) := by
  have ei : (nI i).toNatClampNeg = i := jI_N (by omega)
  rw [qE_takes_43, ei]
  split
  · have : qF_isByKey (r.2 78 i) r = (0, r) ∨ qF_isByKey (r.2 78 i) r = (1, r) := by
      rw [qE_isByKey]
      split
      · exact Or.inr rfl
      · split
        · split
          · exact Or.inl rfl
          · exact Or.inr rfl
        · exact Or.inl rfl
    rcases this with e | e
    · rw [q_ste2 e, if_pos rfl]; exact nP_w h (by omega)
    · rw [q_ste2 e, if_neg (by decide)]; exact nP_t99 h hw I hi hiP hm h1 h59 hp hdp hs hcl
  · have h2 : nP D c w0 (uf (uf r 1567 (r.1 1566)) 1566 (r.2 78 i)) := nP_fr (r := r) (Fs := [1567, 1566]) (Rs := []) (q_fruf (by decide) (q_fruf (by decide) q_fr0)) (by decide) (by decide) (by decide) h
    have h3 := nP_1568 h2 (ri_now (r := uf (uf r 1567 (r.1 1566)) 1566 (r.2 78 i)) (rI_f (rI_f I (by decide)) (by decide)))
    exact nP_t99 (r := uf (uf (uf r 1567 (r.1 1566)) 1566 (r.2 78 i)) 1568 (r.1 1536)) h3 hw (rI_f (rI_f (rI_f I (by decide)) (by decide)) (by decide)) hi hiP hm h1 h59 hp hdp hs hcl
theorem nP_takes (h : nP D c w0 r) (hw : w + 1 ≤ w0) (I : rf_I t s q z r.1 r.2) {i : Nat} (hi : i < 400) (hiP : i < jN (r.1 1606)) (hm : ∀ j, j ≤ i → (r.2 72 j).toInt < (r.1 1536).toInt) (h1 : (r.1 1561).toInt < 3600) (h59 : (r.1 1559).toInt < 3600) {p : Nat} (hp : p < 2) (h71 : r.2 71 i = nI p) (hcl : ¬ r.1 1577 = 0) : nP D c w (qF_takes (nI i) r) ∧ (¬ r.1 1562 = 1 → nP D c w0 (qF_takes (nI i) r)) := by
  have b61 := ri_F I (g := 1561) (lo := 0) (hi := 3600) (by decide)
  have h0 : nP D c w0 (ua r 77 i 2) := nP_fr (q_frua (Fs := []) (Rs := [77]) (by decide) q_fr0) (by decide) (by decide) (by decide) h
  rw [(q_takesF I hi b61.1 h1).1]
  by_cases e : r.1 1562 = 1
  · rw [if_pos e]
    refine ⟨?_, fun hne => absurd e hne⟩
    have h2 : nP D c w0 (uf (ua r 77 i 2) 1575 (r.2 71 i)) := nP_fr (q_fruf (Fs := [1575]) (Rs := []) (by decide) q_fr0) (by decide) (by decide) (by decide) h0
    have I2 : rf_I t s q z (uf (ua r 77 i 2) 1575 (r.2 71 i)).1 (uf (ua r 77 i 2) 1575 (r.2 71 i)).2 := by
      rw [h71]
      exact rI_1575 (r := ua r 77 i 2) (rI_a I (by decide)) (by rw [jI_t (by omega)]; omega) (by rw [jI_t (by omega)]; omega)
    have h3 : nP D c w (qF_takes_43 (nI i) (uf (ua r 77 i 2) 1575 (r.2 71 i))) := nP_t43 h2 hw I2 hi hiP hm h1 h59 hp (by rw [uf_e]; exact h71) e hcl
    unfold q_D
    split
    · exact h3
    · split
      · exact nP_w h2 (by omega)
      · exact h3
  · rw [if_neg e]
    exact ⟨nP_w h0 (by omega), fun _ => h0⟩
end NPG
