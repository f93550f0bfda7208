/-! ===== WHAT NETWORK AND SERVER KEEP TO: something arrives at the server ===== -/
section NPF
variable {n : Nat} {M M0 M1 M2 M3 : z_Mem} {r r1 r2 : q_R} {TL CL : List Nat} {t s q z c w w0 : Nat} {D : Int}
theorem runs_mem {f : Nat → Int32} : ∀ c b x, x ∈ runs f c b → ¬ f x.2 = 0 ∧ x.2 < b := by
  intro c
  induction c with
  | zero => intro b x h; exact absurd h List.not_mem_nil
  | succ c ih =>
    intro b x h
    unfold runs at h
    have hl := hiT_le (f := f) b
    by_cases e : hiT f b = 0
    · rw [if_pos e] at h; exact absurd h List.not_mem_nil
    · rw [if_neg e] at h
      rcases List.mem_cons.mp h with h | h
      · rw [h]
        exact ⟨hiT_ne b e, by show hiT f b - 1 < b; omega⟩
      · have h1 := ih _ x h
        have h2 := loT_le (f := f) (hiT f b)
        exact ⟨h1.1, by omega⟩
theorem nP_1574 (h : nP D c w0 r) (hw : w + 1 ≤ w0) {v : Int32} : nP D c w (uf r 1574 v) := by
  have hu : ∀ g, g ≠ 1574 → (uf r 1574 v).1 g = r.1 g := fun g hg => uf_n hg
  obtain ⟨q1, g1, d1, s1, ⟨k, H, a1, a2, a3, a4, a5⟩, p1⟩ := h
  refine ⟨q1, nH_c (r := r) (fun g hg => hu g (by revert hg; revert g; decide)) (fun _ _ => rfl) g1, nD_c (r := r) (fun g hg => hu g (by revert hg; revert g; decide)) (fun _ _ => rfl) d1, nS_c (r := r) (fun g hg => hu g (by revert hg; revert g; decide)) (fun _ _ => rfl) s1.2.2.2.2.1 s1, ⟨k, H, a1, a2, a3, a4, ?_⟩, p1⟩
  have eR : nAr (uf r 1574 v) = nAr r := rfl
  have eF : nFl (uf r 1574 v) ≤ 1 := by unfold nFl; split <;> omega
  rw [eR, hu 1559 (by decide), hu 1551 (by decide), hu 1606 (by decide), hu 1536 (by decide)]
  omega
theorem nP_1562 (h : nP D c w r) (hcl : ¬ r.1 1577 = 0) {v : Int32} (hv : v = 1 ∨ v = 2) : nP D c w (uf r 1562 v) := by
  have hu : ∀ g, g ≠ 1562 → (uf r 1562 v).1 g = r.1 g := fun g hg => uf_n hg
  obtain ⟨q1, g1, d1, ⟨s1, s2, s3, s4, s5, s6⟩, c1, p1⟩ := h
  refine ⟨q1, nH_c (r := r) (fun g hg => hu g (by revert hg; revert g; decide)) (fun _ _ => rfl) g1, nD_c (r := r) (fun g hg => hu g (by revert hg; revert g; decide)) (fun _ _ => rfl) d1, ⟨?_, s2, fun e => ?_, fun e => absurd e hcl, s5, s6⟩, nC_c (r := r) (fun g hg => hu g (by revert hg; revert g; decide)) rfl c1, p1⟩
  · rw [uf_e]
    rcases hv with e | e
    · exact Or.inr (Or.inl e)
    · exact Or.inr (Or.inr (Or.inl e))
  · rw [uf_e] at e
    rcases hv with e2 | e2
    · rw [e2] at e; exact absurd e (by decide)
    · rw [e2] at e; exact absurd e (by decide)
theorem nP_1568 (h : nP D c w r) (hn : 0 ≤ (r.1 1536).toInt ∧ (r.1 1536).toInt ≤ 2000) : nP D c w (uf r 1568 (r.1 1536)) := by
  have hu : ∀ g, g ≠ 1568 → (uf r 1568 (r.1 1536)).1 g = r.1 g := fun g hg => uf_n hg
  obtain ⟨q1, g1, ⟨d1, d2, d3, d4, d5, d6, d7, d8⟩, s1, c1, p1⟩ := h
  exact ⟨q1, nH_c (r := r) (fun g hg => hu g (by revert hg; revert g; decide)) (fun _ _ => rfl) g1, ⟨d1, d2, d3, d4, d5, d6, d7, by rw [uf_e]; exact hn⟩, nS_c (r := r) (fun g hg => hu g (by revert hg; revert g; decide)) (fun _ _ => rfl) s1.2.2.2.2.1 s1, nC_c (r := r) (fun g hg => hu g (by revert hg; revert g; decide)) rfl c1, p1⟩
theorem nP_1561 (I : rf_I t s q z r.1 r.2) (h : nP D c w0 r) (h1 : (r.1 1561).toInt < 3600) {R : q_R} (f1 : ∀ g, g ≠ 1561 → g ≠ 1573 → g ≠ 1574 → R.1 g = r.1 g) (f2 : R.1 1561 = r.1 1561 + 1) (f3 : R.1 1573 = 0) (f4 : R.1 1574 = -1) (f5 : ∀ x, x ≠ 61 → x ≠ 106 → R.2 x = r.2 x) (f6 : ∀ i, i < 15 * jN (r.1 1561) → R.2 61 i = r.2 61 i) : nP D c (w0 + nFl r) R := by
  have b61 := ri_F I (g := 1561) (lo := 0) (hi := 3600) (by decide)
  have n61 := jN_toInt b61.1
  have eA : jN (R.1 1561) = jN (r.1 1561) + 1 := by rw [f2]; exact jN_add1 b61.1 (by omega)
  have C7 := I.2.2.2.2.2.2.1.1
  obtain ⟨q1, g1, ⟨d1, d2, d3, d4, d5, d6, d7, d8⟩, s1, ⟨k, H, a1, a2, a3, a4, a5⟩, p1⟩ := h
  refine ⟨nQ_c (f5 51 (by decide) (by decide)) (f5 50 (by decide) (by decide)) (f1 1551 (by decide) (by decide) (by decide)) (f5 54 (by decide) (by decide)) q1, nH_c (fun g hg => f1 g (by revert hg; revert g; decide) (by revert hg; revert g; decide) (by revert hg; revert g; decide)) (fun x hx => f5 x (by revert hx; revert x; decide) (by revert hx; revert x; decide)) g1, ⟨?_, ?_, jTK_c (f1 1572 (by decide) (by decide) (by decide)) (f5 63 (by decide) (by decide)) d3, ?_, fun a ha e => ?_, ?_, Or.inl f3, ?_⟩, nS_c (fun g hg => f1 g (by revert hg; revert g; decide) (by revert hg; revert g; decide) (by revert hg; revert g; decide)) (fun x hx => f5 x (by revert hx; revert x; decide) (by revert hx; revert x; decide)) (fun hc => by rw [f5 91 (by decide) (by decide)]; exact s1.2.2.2.2.1 hc) s1, ⟨k, H, a1, ?_, ?_, ?_, ?_⟩, nK_c (f1 1536 (by decide) (by decide) (by decide)) (f1 1584 (by decide) (by decide) (by decide)) (fun x hx => f5 x (by revert hx; revert x; decide) (by revert hx; revert x; decide)) p1⟩
  · rw [f1 1551 (by decide) (by decide) (by decide), f1 1606 (by decide) (by decide) (by decide), f5 52 (by decide) (by decide), f5 53 (by decide) (by decide), f5 54 (by decide) (by decide)]; exact d1
  · rw [f1 1554 (by decide) (by decide) (by decide), f1 1551 (by decide) (by decide) (by decide), f5 52 (by decide) (by decide), f5 53 (by decide) (by decide), f5 55 (by decide) (by decide), f5 56 (by decide) (by decide), f5 72 (by decide) (by decide)]; exact d2
  · rw [f5 63 (by decide) (by decide), f1 1606 (by decide) (by decide) (by decide), f5 72 (by decide) (by decide), f1 1536 (by decide) (by decide) (by decide)]; exact d4
  · rw [f1 1559 (by decide) (by decide) (by decide)] at ha
    rw [f5 57 (by decide) (by decide)] at e
    rw [f5 58 (by decide) (by decide), f5 60 (by decide) (by decide), eA]
    have hd := d5 a ha e
    refine ⟨by omega, ?_⟩
    generalize jN (r.2 58 a) = t' at hd
    have c4 := (C7 (15 * t')).1 (by omega)
    have n4 := jN_toInt c4.1
    unfold nTld at hd ⊢
    rw [f6 (15 * t') (by omega), f1 1606 (by decide) (by decide) (by decide), f5 72 (by decide) (by decide)]
    intro i hi
    rw [f6 (15 * t' + 2 + 2 * i) (by omega)]
    exact hd.2 i hi
  · rw [f1 1606 (by decide) (by decide) (by decide), f5 78 (by decide) (by decide)]; exact d6
  · rw [f1 1568 (by decide) (by decide) (by decide)]; exact d8
  · rw [f1 1577 (by decide) (by decide) (by decide)]; exact a2
  · rw [f1 1577 (by decide) (by decide) (by decide), f1 1581 (by decide) (by decide) (by decide), f1 1580 (by decide) (by decide) (by decide), f1 1579 (by decide) (by decide) (by decide)]; exact a3
  · rw [f1 1551 (by decide) (by decide) (by decide), f1 1606 (by decide) (by decide) (by decide)]; exact a4
  · have eR : nAr R = nAr r := nAr_c (f1 1536 (by decide) (by decide) (by decide)) (f1 1554 (by decide) (by decide) (by decide)) (f5 56 (by decide) (by decide))
    have eF : nFl R = 0 := by unfold nFl; rw [if_pos f4]
    rw [eR, eF, f1 1559 (by decide) (by decide) (by decide), f1 1551 (by decide) (by decide) (by decide), f1 1606 (by decide) (by decide) (by decide), f1 1536 (by decide) (by decide) (by decide)]
    omega
theorem nP_ack {x : Int32} (h : nP D c w0 (uf r 1573 x)) (hw : w + 1 ≤ w0 + nFl r) (I : rf_I t s q z r.1 r.2) (h1 : (r.1 1561).toInt < 3600) (h59 : (r.1 1559).toInt < 3600) {p : Nat} (hp : p < 2) (hdp : r.1 1575 = nI p) (hs : r.1 1562 = 1) (hcl : ¬ r.1 1577 = 0) : nP D c w (qF_acknowledges r) := by
  have b61 := ri_F I (g := 1561) (lo := 0) (hi := 3600) (by decide)
  have b59 := ri_F I (g := 1559) (lo := 0) (hi := 3600) (by decide)
  have n61 := jN_toInt b61.1
  have I2 : rf_I t s q z (uf r 1573 x).1 (uf r 1573 x).2 := rI_f I (by decide)
  rw [q_ackF r b61.1 h1, hdp]
  have hT : (uf r 1573 x).1 1561 = r.1 1561 := uf_n (by decide)
  obtain ⟨w1, w2, w3, w4⟩ := q_wr1 (T := 15 * jN (r.1 1561)) (runs (r.2 63) 4 400) 0 r
  have hl := runs_len (f := r.2 63) 4 400
  have hm := runs_mem (f := r.2 63) 4 400
  generalize runs (r.2 63) 4 400 = L at w1 w2 w3 w4 hl hm
  generalize q_wr (15 * jN (r.1 1561)) 0 L r = X at w1 w2 w3 w4
  have e61 := fun i => q_ackR61 (T := 15 * jN (r.1 1561)) (c := nI L.length) X i
  have k1 : ∀ g, g ≠ 1561 → g ≠ 1573 → g ≠ 1574 → (q_ackR (15 * jN (r.1 1561)) (nI L.length) X).1 g = r.1 g := fun g a b d => by
    unfold q_ackR q_row4
    rw [uf_n d, uf_n b, ua1, uf_n a]
    show X.1 g = _
    rw [w1]
  have k2 : (q_ackR (15 * jN (r.1 1561)) (nI L.length) X).1 1561 = r.1 1561 + 1 := by
    unfold q_ackR q_row4
    rw [uf_n (by decide), uf_n (by decide), ua1, uf_e, w1]
  have k3 : (q_ackR (15 * jN (r.1 1561)) (nI L.length) X).1 1573 = 0 := by
    unfold q_ackR q_row4
    rw [uf_n (by decide), uf_e]
  have k4 : (q_ackR (15 * jN (r.1 1561)) (nI L.length) X).1 1574 = -1 := by
    unfold q_ackR q_row4
    rw [uf_e]
  have k5 : ∀ y, y ≠ 61 → y ≠ 106 → (q_ackR (15 * jN (r.1 1561)) (nI L.length) X).2 y = r.2 y := fun y a b => by
    unfold q_ackR q_row4
    rw [uf2, uf2, ua_n b, uf2, ua_n a, ua_n a, ua_n a, ua_n a, ua_n a, ua_n a, ua_n a]
    exact w2 y a
  generalize q_ackR (15 * jN (r.1 1561)) (nI L.length) X = R at e61 k1 k2 k3 k4 k5
  have hR : nP D c (w0 + nFl r) R := by
    have hf : nFl (uf r 1573 x) = nFl r := rfl
    rw [← hf]
    refine nP_1561 I2 h (by rw [hT]; exact h1) (fun g a b d => (k1 g a b d).trans (uf_n b).symm) (by rw [hT]; exact k2) k3 k4 k5 (fun i hi => ?_)
    rw [hT] at hi
    rw [e61, if_neg (by omega), if_neg (by omega), if_neg (by omega), if_neg (by omega), if_neg (by omega), if_neg (by omega), if_neg (by omega), w3 i (Or.inl (by omega))]
    rfl
  have eA : jN (R.1 1561) = jN (r.1 1561) + 1 := by rw [k2]; exact jN_add1 b61.1 (by omega)
  refine nP_answ hR (by omega) (by rw [k1 1559 (by decide) (by decide) (by decide)]; exact b59.1) (by rw [k1 1559 (by decide) (by decide) (by decide)]; exact h59) hp (fun e => absurd e (by decide)) (fun _ => ⟨by omega, fun i hi => ?_⟩) (fun e => ?_) (by rw [k1 1577 (by decide) (by decide) (by decide)]; exact hcl)
  · have hd4 := h.2.2.1.2.2.2.1
    have b41 : 1 ≤ (r.2 41 p).toInt ∧ (r.2 41 p).toInt ≤ 30 := h.2.2.2.2.2.1.1 p hp
    have bn := h.2.2.2.2.2.1.2.2.2.2
    rw [e61, if_neg (by omega), if_neg (by omega), if_neg (by omega), if_neg (by omega), if_neg (by omega), if_neg (by omega), if_pos rfl, jN_nI (by omega)] at hi
    have hL : L[i]? = some L[i] := List.getElem?_eq_getElem hi
    have h61 := (w4 i _ hL).2
    rw [Nat.zero_add] at h61
    have hmem := hm _ (List.getElem_mem hi)
    generalize L[i] = xx at h61 hmem
    rw [e61, if_neg (by omega), if_neg (by omega), if_neg (by omega), if_neg (by omega), if_neg (by omega), if_neg (by omega), if_neg (by omega), h61, jI_t (by omega), k1 1606 (by decide) (by decide) (by decide), k5 72 (by decide) (by decide), k1 1536 (by decide) (by decide) (by decide), k5 41 (by decide) (by decide)]
    have hk := hd4 xx.2 hmem.2 hmem.1
    rw [uf_n (by decide), uf_n (by decide)] at hk
    have bP := ri_P I
    have nP' := jN_toInt bP.1
    rw [uf_n (by decide)] at bn
    have e41 : (r.1 1536 + r.2 41 p).toInt = (r.1 1536).toInt + (r.2 41 p).toInt := i_addE rfl rfl (by omega) (by omega)
    refine ⟨by omega, fun k hk2 => ?_⟩
    have h2 : (r.2 72 k).toInt < (r.1 1536).toInt := hk.2 k (by omega)
    have h3 : 1 ≤ (r.2 41 p).toInt := b41.1
    rw [e41]; omega
  · rw [k1 1562 (by decide) (by decide) (by decide), hs] at e
    exact absurd e (by decide)
end NPF
