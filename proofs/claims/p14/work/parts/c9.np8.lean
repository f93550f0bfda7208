/-! ===== WHAT NETWORK AND SERVER KEEP TO: something arrives at the server (3) ===== -/
section NPH
variable {n : Nat} {M M0 M1 M2 M3 : z_Mem} {r r1 r2 : q_R} {TL CL : List Nat} {t s q z c w w0 : Nat} {D : Int}
theorem nP_124 (h : nP D c w0 r) (hw : w + 1 ≤ w0) (h0 : 0 ≤ (r.1 1559).toInt) (h1 : (r.1 1559).toInt < 3600) {p : Nat} (hp : p < 2) (hage : (r.1 1536).toInt ≤ (r.1 1580).toInt + 110) (h62 : ¬ r.1 1562 = 0) (hcl : ¬ r.1 1577 = 0) : nP D c w (qF_hears_124 (nI p) r) := by
  have key : ∀ i, nP D c w (qF_answers (nI p) 6 i r) := fun i => nP_answ h hw h0 h1 hp (fun _ => hage) (fun e => absurd e (by decide)) (fun e => absurd e h62) hcl
  rw [qE_hears_124]
  split
  · exact key 0
  · exact key 1
theorem nP_hears (h : nP D c w0 r) (hw : w + 1 ≤ w0) (h0 : 0 ≤ (r.1 1559).toInt) (h1 : (r.1 1559).toInt < 3600) {p : Nat} (hp : p < 2) (hage : (r.1 1536).toInt ≤ (r.1 1580).toInt + 110) (hcl : ¬ r.1 1577 = 0) {x : Int32} : nP D c w (qF_hears (nI p) x r) := by
  have ha : ∀ a b : q_R, q_fr [1564] [62] a b → nP D c w0 a → nP D c w0 b := fun a b F k => nP_fr F (by decide) (by decide) (by decide) k
  have h62 := nP_1562 h hcl (v := 1) (Or.inl rfl)
  have n1 : ¬ (uf r 1562 1).1 1562 = 0 := by rw [uf_e]; decide
  have h106 : ∀ x4 t1, nP D c w (qF_hears_106 (nI p) x4 t1 (uf r 1562 1)) := fun x4 t1 => by
    rw [qE_hears_106]
    have e1 := ha (uf r 1562 1) (uf (uf r 1562 1) 1564 t1) (q_fruf (by decide) q_fr0) h62
    have e2 := ha (uf r 1562 1) (ua (uf (uf r 1562 1) 1564 t1) 62 x4.toNatClampNeg 1) (q_frua (by decide) (q_fruf (by decide) q_fr0)) h62
    show nP D c w (if (uf (uf r 1562 1) 1564 t1).1 1564 = 0 then qF_hears_124 (nI p) (uf (uf r 1562 1) 1564 t1) else qF_hears_124 (nI p) (ua (uf (uf r 1562 1) 1564 t1) 62 x4.toNatClampNeg 1))
    split
    · exact nP_124 e1 hw h0 h1 hp hage n1 hcl
    · exact nP_124 e2 hw h0 h1 hp hage n1 hcl
  have h80 : ∀ x4, nP D c w (qF_hears_80 (nI p) x4 r) := fun x4 => by
    rw [qE_hears_80]
    show nP D c w (if x4 < 0 then qF_hears_105 (nI p) x4 (uf r 1562 1) else if (uf r 1562 1).2 62 x4.toNatClampNeg = 0 then qF_hears_106 (nI p) x4 1 (uf r 1562 1) else qF_hears_105 (nI p) x4 (uf r 1562 1))
    rw [qE_hears_105]
    split
    · exact h106 _ _
    · split
      · exact h106 _ _
      · exact h106 _ _
  have h12 : ∀ t0, nP D c w (qF_hears_12 (nI p) x t0 r) := fun t0 => by
    rw [qE_hears_12]
    show nP D c w (if r.1 1562 = 2 then r else if r.1 1562 = 1 then (if r.1 1564 = 0 then qF_answers (nI p) 6 0 r else qF_answers (nI p) 6 1 r) else if r.1 1563 = 0 then qF_hears_80 (nI p) (x / 2 - 1) r else if t0 = 0 then qF_answers (nI p) 5 0 r else qF_hears_80 (nI p) (x / 2 - 1) r)
    split
    · exact nP_w h (by omega)
    · split
      · rename_i c1
        have := nP_124 h hw h0 h1 hp hage (by rw [c1]; decide) hcl
        rw [qE_hears_124] at this
        exact this
      · split
        · exact h80 _
        · split
          · exact nP_answ h hw h0 h1 hp (fun e => absurd e (by decide)) (fun e => absurd e (by decide)) (fun _ => rfl) hcl
          · exact h80 _
  rw [qE_hears]
  split
  · exact h12 1
  · exact h12 0
theorem nP_a46 (h : nP D c w0 r) (hw : w + 1 ≤ w0) (h0 : 0 ≤ (r.1 1559).toInt) (h1 : (r.1 1559).toInt < 3600) {p : Nat} (hp : p < 2) (hcl : ¬ r.1 1577 = 0) {x : Int32} : nP D c w (qF_arrivesAtServer_46 x (nI p) r) := by
  have hr := nP_w (w2 := w) h (by omega)
  have hc := nP_1562 hr hcl (v := 2) (Or.inr rfl)
  have ha : ∀ a, (a = 8 ∨ a = 9) → ¬ r.1 1562 = 0 → nP D c w (qF_answers (nI p) a 0 r) := fun a e hne => nP_answ h hw h0 h1 hp (fun e2 => by rcases e with e | e <;> (rw [e] at e2; exact absurd e2 (by decide))) (fun e2 => by rcases e with e | e <;> (rw [e] at e2; exact absurd e2 (by decide))) (fun e2 => absurd e2 hne) hcl
  rw [q_a46]
  split
  · rename_i c3
    exact ha 9 (Or.inr rfl) (by rw [c3]; decide)
  · split
    · split
      · rename_i c1
        exact ha 8 (Or.inl rfl) (by rw [c1]; decide)
      · split
        · exact hc
        · exact hr
    · split
      · exact hc
      · exact hr
theorem nP_arr (h : nP D c w0 r) (hw : w + 1 ≤ w0) (I : rf_I t s q z r.1 r.2) (h61 : (r.1 1561).toInt < 3600) (h59 : (r.1 1559).toInt < 3600) {th : Nat} (hth : th < jN (r.1 1551)) (hth2 : th < 1300) {p : Nat} (hp : p < 2) (h54 : r.2 54 th = nI p) (hH : r.2 52 th = 1 → (r.1 1536).toInt ≤ (r.1 1580).toInt + 110) (hD : r.2 52 th = 2 → r.2 71 (jN (r.2 53 th)) = nI p ∧ ∀ j, j ≤ jN (r.2 53 th) → (r.2 72 j).toInt < (r.1 1536).toInt) : nP D c w (qF_arrivesAtServer (nI th) r) := by
  have et : (nI th).toNatClampNeg = th := jI_N (by omega)
  have b59 := ri_F I (g := 1559) (lo := 0) (hi := 3600) (by decide)
  have b61 := ri_F I (g := 1561) (lo := 0) (hi := 3600) (by decide)
  have hcl : ¬ r.1 1577 = 0 := fun e => by
    have := (h.2.2.2.1.2.2.2.1 e).1
    omega
  have e53 := ri_A I (x := 53) (lo := 0) (hi := 399) (by decide) th
  have n53 := jN_toInt e53.1
  have i53 := jI_jN e53.1
  have eA : qF_arrivesAtServer (nI th) r = (if r.2 52 th = 1 then qF_hears (nI p) (r.2 53 th) r else if r.2 52 th = 2 then qF_arrivesAtServer_46 (r.2 52 th) (nI p) (qF_takes (r.2 53 th) r) else qF_arrivesAtServer_46 (r.2 52 th) (nI p) r) := by
    rw [qE_arrivesAtServer, et, h54]; rfl
  rw [eA]
  by_cases e1 : r.2 52 th = 1
  · rw [if_pos e1]
    exact nP_hears h hw b59.1 h59 hp (hH e1) hcl
  · rw [if_neg e1]
    by_cases e2 : r.2 52 th = 2
    · rw [if_pos e2]
      obtain ⟨x1, x2⟩ := hD e2
      have x3 := (h.2.2.1.1 th hth e2).1
      rw [← i53]
      have T := nP_takes h hw I (by omega) x3 x2 h61 h59 hp x1 hcl
      obtain ⟨k1, k2⟩ := q_takesF (i := jN (r.2 53 th)) I (by omega) b61.1 h61
      have e62 : (qF_takes (nI (jN (r.2 53 th))) r).1 1562 = r.1 1562 := k2.1 1562 (by decide)
      by_cases e : r.1 1562 = 1
      · rw [q_a46, e62, if_neg (by rw [e]; decide), e2, if_neg (by decide), if_neg (by decide)]
        exact T.1
      · refine nP_a46 (T.2 e) hw ?_ ?_ hp (by rw [k2.1 1577 (by decide)]; exact hcl)
        · rw [k1, if_neg e]; exact b59.1
        · rw [k1, if_neg e]; exact h59
    · rw [if_neg e2]
      exact nP_a46 h hw b59.1 h59 hp hcl
/-- what the server's part asks -/
theorem nP_SV (h : nP D c w r) (I : rf_I t s q z r.1 r.2) (hc : c ≤ 512) (h61 : (r.1 1561).toInt < 3600) : jSV ((r.1 1536).toInt + 1) r := by
  have hb := (nC_b h.2.2.2.2.1 I hc).2.2
  have b59 := ri_F I (g := 1559) (lo := 0) (hi := 3600) (by decide)
  have b61 := ri_F I (g := 1561) (lo := 0) (hi := 3600) (by decide)
  have bn := ri_now I
  have n59 := jN_toInt b59.1
  obtain ⟨q1, g, ⟨d1, d2, d3, d4, d5, d6, d7, d8⟩, s1, c1, p1⟩ := h
  refine ⟨d3, d7, ⟨b61.1, h61⟩, ⟨b59.1, by omega⟩, fun p hp => ?_, d8, bn, d6⟩
  have b41 := p1.1.1 p hp
  rw [i_addE (x := r.1 1536) (y := r.2 41 p) rfl rfl (by omega) (by omega)]
  omega
end NPH
