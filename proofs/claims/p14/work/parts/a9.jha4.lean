/-! ===== THE LIKENESS: an ACK is heard, whole ===== -/
section JHD
variable {n : Nat} {M M0 M1 M2 : z_Mem} {r r1 r2 : q_R} {TL CL : List Nat} {t s q z : Nat}
theorem rI_1585 (I : rf_I t s q z r.1 r.2) {v : Int32} (h0 : 0 ≤ v.toInt) (h1 : v.toInt ≤ 2147483647) : rf_I t s q z (uf r 1585 v).1 (uf r 1585 v).2 := by
  obtain ⟨c1, c2, c3, c4, c5, c6, c7, c8, c9, c10, c11, c12⟩ := I
  have w : ∀ k, k ≠ 1585 → (uf r 1585 v).1 k = r.1 k := fun k hk => uf_n hk
  refine ⟨c1, fun tr htr => ?_, c3, c4.congr (fun _ _ => rfl) (fun y hy => w y (by revert hy; revert y; decide)), c5, c6.congr (fun _ _ => rfl) (fun y hy => w y (by revert hy; revert y; decide)), c7, c8.congr (fun _ _ => rfl) (fun y hy => w y (by revert hy; revert y; decide)), c9.congr (fun y hy => w y (by revert hy; revert y; decide)), c10, c11.congr (fun _ _ => rfl) (fun y hy => w y (by revert hy; revert y; decide)), c12.congr (fun _ _ => rfl) (fun y hy => w y (by revert hy; revert y; decide))⟩
  have hC := c2 tr htr
  by_cases hc : tr.1 = 1585
  · have : tr = (1585, 0, 2147483647) := (show ∀ tr, tr ∈ rf_RF → tr.1 = 1585 → tr = (1585, 0, 2147483647) from by decide) tr htr hc
    subst this
    show 0 ≤ ((uf r 1585 v).1 1585).toInt ∧ ((uf r 1585 v).1 1585).toInt ≤ 2147483647
    rw [uf_e]; exact ⟨h0, h1⟩
  · rw [w _ hc]; exact hC

theorem j_h31 {b t' g pk : Nat} (ht : t' < 3600) (J : JJ n M r TL CL) (h : kI t s q z r) (A : j_ack n M r b t') (hg : g < jN (r.1 1606)) (e : z_ar M (n + 38) g = some pk) : JJ n (cF_X1_hearAck_109 (n + 31) (some b) (cF_X1_hearOfGreatest_31 (n + 31) (some pk) (r.2 61 (15 * t' + 9)) (some (n + 32)) M)) (qF_hearsAck_140 (nI (15 * t')) (nI g) r) TL CL ∧ kI t s q z (qF_hearsAck_140 (nI (15 * t')) (nI g) r) ∧ kFA r (qF_hearsAck_140 (nI (15 * t')) (nI g) r) ∧ (qF_hearsAck_140 (nI (15 * t')) (nI g) r).2 91 = r.2 91 := by
  have hb := ri_pk h.1
  have hP := ri_P h.1
  have hPN := jN_toInt hP.1
  obtain ⟨pk0, a1, a2, a3, a4, a5⟩ := J.pkt hg
  rw [e] at a1
  cases a1
  have e0 : (0 : Int32).toNatClampNeg = 0 := rfl
  have hQ := qE_hearsAck_140 (nI (15 * t')) (nI g) r
  rw [show (nI (15 * t') + 9 : Int32).toNatClampNeg = 15 * t' + 9 from q_ix (k := 9) (by omega) (by omega)] at hQ
  have hB := cE_X1_hearOfGreatest_31 (n + 31) (some pk) (r.2 61 (15 * t' + 9)) (some (n + 32)) M
  rw [js_146_31 J] at hB
  by_cases c : r.2 61 (15 * t' + 9) ≤ r.1 1585
  · rw [if_pos c] at hQ hB
    rw [hB, hQ]
    exact j_ha109 ht J h A
  · rw [if_neg c] at hQ hB
    generalize hv : r.2 61 (15 * t' + 9) = v at hB hQ c
    have b85 := ri_F h.1 (g := 1585) (lo := 0) (hi := 2147483647) (by decide)
    rw [Int32.le_iff_toInt_le] at c
    have hvl := Int32.toInt_lt v
    have h1 : kI t s q z (uf r 1585 v) := ⟨rI_1585 h.1 (by omega) (by omega), kP_uf h.2 (by decide)⟩
    have J3 := J.sf (M1 := z_sfi M 146 (n + 31) v) (j := 1585) rfl (by decide)
    have H3 : hA n M (z_sfi M 146 (n + 31) v) := hA_f (hA_r J.1) (by decide)
    have k133 : z_fi (z_sfi M 146 (n + 31) v) 133 (n + 31) = r.1 1606 := (js_133_31 J3).trans (uf_n (by decide))
    have k645 : z_fi (z_sfi M 146 (n + 31) v) 645 (n + 1) = r.1 1536 := (js_645_1 J3).trans (uf_n (by decide))
    have k768 : z_fi (z_sfi M 146 (n + 31) v) 768 pk = nI g := by rw [zq_fi_sfi, if_neg (by decide)]; exact a4
    generalize z_sfi M 146 (n + 31) v = W at hB J3 H3 k133 k645 k768
    replace hB := hB.trans (q_ste (b := W) rfl)
    replace hB := hB.trans (q_ste (b := n + 32) rfl)
    replace hB := hB.trans (q_ste (b := pk) rfl)
    replace hB := hB.trans (q_ste (b := n + 1) (by rw [s_128_31 J3.1]; rfl))
    replace hB := hB.trans (q_ste (b := n + 33) (by rw [s_897_32 J3.1]; rfl))
    rw [k133, k645, k768] at hB
    replace hB := hB.trans (q_ste rfl)
    replace hQ := hQ.trans (q_ste (b := uf r 1585 v) rfl)
    rw [jI_N (by omega : g < 2147483648), show (uf r 1585 v).2 71 g = r.2 71 g from rfl, (h.2.1.2.2.1 g hg).1] at hQ
    replace hQ := hQ.trans (q_ste rfl)
    have J4 := j_harm J3 (num := nI g) (p3 := 0) (h1.2.2.1.2.2.1 0 (by decide))
    rw [if_pos rfl] at J4
    have H4 : hA n M (cF_X2_harm (n + 33) (nI g) (-1) (r.1 1606) (r.1 1536) W) := hA_t H3 (c_harmA (hA_r J3.1))
    have h4 : kI t s q z (qF_harms 0 (nI g) 0 (uf r 1585 v)) := ⟨(rI_harms J.1 h1.1 (by decide)).1, kP_harms h1.2 (fun ez => by
      have ez' : r.1 1606 = 0 := ez
      rw [ez'] at hg
      exact absurd hg (Nat.not_lt_zero _)) (by have := ri_84 h1.1; omega)⟩
    have F4 := (q_harmsF (r := uf r 1585 v) (num := nI g) (p3 := 0)).1
    have F5 : kFA r (qF_harms 0 (nI g) 0 (uf r 1585 v)) := q_frt (q_fruf (by decide) q_fr0) (q_frw F4 (by decide) (by decide))
    have f91 : (qF_harms 0 (nI g) 0 (uf r 1585 v)).2 91 = r.2 91 := F4.2 91 (by decide)
    have f61 : (qF_harms 0 (nI g) 0 (uf r 1585 v)).2 61 = r.2 61 := F4.2 61 (by decide)
    rw [hB, hQ]
    have J5 : JJ n (cF_X2_harm (n + 33) (nI g) (-1) (r.1 1606) (r.1 1536) W) (qF_harms 0 (nI g) 0 (uf r 1585 v)) TL CL := J4
    obtain ⟨z1, z2, z3, z4⟩ := j_ha109 ht J5 h4 (A.cA H4 f61)
    exact ⟨z1, z2, q_frt F5 z3, z4.trans f91⟩
theorem j_haG {b t' g pk : Nat} {fl : Int32} (ht : t' < 3600) (J : JJ n M r TL CL) (h : kI t s q z r) (A : j_ack n M r b t') (hg : g < jN (r.1 1606)) (e : z_ar M (n + 38) g = some pk) (hM : ¬ r.2 91 0 = 0) : JJ n (cF_X1_hearAck_109 (n + 31) (some b) (cF_X1_hearOfGreatest (n + 31) (some pk) fl (r.2 61 (15 * t' + 9)) M)) (qF_hearsAck_140 (nI (15 * t')) (nI g) (if fl = 0 then r else qF_measures 0 (r.1 1536 - r.2 72 g) r)) TL CL ∧ kI t s q z (qF_hearsAck_140 (nI (15 * t')) (nI g) (if fl = 0 then r else qF_measures 0 (r.1 1536 - r.2 72 g) r)) ∧ kFA r (qF_hearsAck_140 (nI (15 * t')) (nI g) (if fl = 0 then r else qF_measures 0 (r.1 1536 - r.2 72 g) r)) ∧ ¬ (qF_hearsAck_140 (nI (15 * t')) (nI g) (if fl = 0 then r else qF_measures 0 (r.1 1536 - r.2 72 g) r)).2 91 0 = 0 := by
  obtain ⟨pk0, a1, a2, a3, a4, a5⟩ := J.pkt hg
  rw [e] at a1
  cases a1
  have hB := cE_X1_hearOfGreatest (n + 31) (some pk) fl (r.2 61 (15 * t' + 9)) M
  replace hB := hB.trans (q_ste (b := pk) rfl)
  have hr : cF_X1_routeOf (n + 31) (z_fi M 769 pk) M = (some (n + 32), M) := by
    rw [cE_X1_routeOf, (jp_769 a5).trans (h.2.1.2.2.1 g hg).1, if_pos rfl, s_130_31 J.1]
  replace hB := hB.trans (q_ste2 hr)
  by_cases c : fl = 0
  · rw [if_pos c] at hB ⊢
    rw [hB]
    obtain ⟨z1, z2, z3, z4⟩ := j_h31 ht J h A hg e
    exact ⟨z1, z2, z3, by rw [z4]; exact hM⟩
  · rw [if_neg c] at hB ⊢
    replace hB := hB.trans (q_ste (b := n + 1) (by rw [s_128_31 J.1]; rfl))
    replace hB := hB.trans (q_ste (b := n + 32) rfl)
    rw [js_645_1 J, jp_770 a5] at hB
    have b72 := ri_72 h.1 g
    have bn := ri_now h.1
    have ev : (r.1 1536 - r.2 72 g).toInt = (r.1 1536).toInt - (r.2 72 g).toInt := i_subE rfl rfl (by omega) (by omega)
    generalize r.1 1536 - r.2 72 g = v at hB ev
    have J1 := j_measure J (v := v)
    have H1 : hA n M (cF_X7_measure (n + 32) v M) := c_measA (hA_r J.1)
    have h1 : kI t s q z (qF_measures 0 v r) := ⟨(rI_measures J.1 h.1 (by decide) (by omega)).1, kP_measures h.2 (fun hz => absurd hz hM)⟩
    obtain ⟨F1, -, -, F4⟩ := q_measF (r := r) (v := v)
    generalize cF_X7_measure (n + 32) v M = W at hB J1 H1
    replace hB := hB.trans (q_ste (b := W) rfl)
    generalize qF_measures 0 v r = R at J1 h1 F1 F4
    have f61 : R.2 61 = r.2 61 := F1.2 61 (by decide)
    have f6 : R.1 1606 = r.1 1606 := F1.1 1606 (by decide)
    have hz := j_h31 (g := g) (pk := pk) ht J1 h1 (A.cA H1 f61) (by rw [f6]; exact hg) (by rw [H1.2.2.2.2.2]; exact e)
    rw [f61] at hz
    obtain ⟨z1, z2, z3, z4⟩ := hz
    rw [hB]
    exact ⟨z1, z2, q_frt (q_frw F1 (by decide) (by decide)) z3, by rw [z4]; exact F4⟩
/-- the first range is the one with the greatest numbers: what is read at the end -/
theorem j_ha25 {b t' : Nat} (ht : t' < 3600) (J : JJ n M r TL CL) (h : kI t s q z r) (A : j_ack n M r b t') (T : kTld r t') (hM : ¬ r.2 91 0 = 0) {x2 : Option Nat} {fl y3 : Int32} (hx : (jN (r.2 61 (15 * t')) = 0 ∧ x2 = none ∧ fl = 0) ∨ (∃ g, g < jN (r.1 1606) ∧ 0 < jN (r.2 61 (15 * t')) ∧ x2 = z_ar M (n + 38) g ∧ y3 = nI g)) : JJ n (cF_X1_hearAck_25 (n + 31) (some b) x2 fl M) (qF_hearsAck_46 (nI (15 * t')) y3 fl r) TL CL ∧ kI t s q z (qF_hearsAck_46 (nI (15 * t')) y3 fl r) ∧ kFA r (qF_hearsAck_46 (nI (15 * t')) y3 fl r) ∧ ¬ (qF_hearsAck_46 (nI (15 * t')) y3 fl r).2 91 0 = 0 := by
  have A0 := A
  obtain ⟨h1, h2, l, hh, ee, g1, g2, g3, g4, g5, g6, k1, k2, k3, k4, k5⟩ := A
  have b61 : 0 ≤ (r.2 61 (15 * t')).toInt ∧ (r.2 61 (15 * t')).toInt ≤ 4 := (h.1.2.2.2.2.2.2.1.1 (15 * t')).1 (by omega)
  have n61 := jN_toInt b61.1
  have i61 := jI_jN b61.1
  have b85 := ri_F h.1 (g := 1585) (lo := 0) (hi := 2147483647) (by decide)
  have b9 := h.1.2.2.2.2.2.2.1.2 t'
  generalize hc : jN (r.2 61 (15 * t')) = c at n61 i61 hx
  have hB := cE_X1_hearAck_25 (n + 31) (some b) x2 fl M
  replace hB := hB.trans (q_ste (b := b) rfl)
  rw [k1, ← i61, show (if (4 : Int32) < nI c then 4 else nI c : Int32) = nI c from if_neg (fun hlt => by rw [show (4 : Int32) = nI 4 from rfl, jI_lt (by omega) (by omega)] at hlt; omega), Int32.sub_eq_add_neg] at hB
  replace hB := hB.trans (q_ste rfl)
  have hQ := qE_hearsAck_46 (nI (15 * t')) y3 fl r
  rw [jI_N (by omega : 15 * t' < 2147483648), ← i61, Int32.sub_eq_add_neg] at hQ
  replace hQ := hQ.trans (q_ste rfl)
  obtain ⟨M', r', z1, z2, z3, z4, z5, z6⟩ := j_ha38 (b := b) (t' := t') (c := c) (x2 := x2) (x3 := fl) (y3 := y3) (y4 := fl) ht (by omega) c M r (Nat.le_refl _) J h A0 T hc
  replace hB := hB.trans z5
  replace hQ := hQ.trans z6
  have e61 := z3.2 61 (by decide)
  have e91 : r'.2 91 = r.2 91 := z3.2 91 (by decide)
  have A1 : j_ack n M' r' b t' := A0.cA z4 e61
  have e4 : z_fi M' 4 b = r'.2 61 (15 * t' + 9) := by rw [z4.2.2.1 4 b (by decide), e61]; exact k3
  have hC := cE_X1_hearAck_38 (n + 31) (some b) x2 fl (nI 0 + (-1)) M'
  rw [if_pos (by decide)] at hC
  have hR := qE_hearsAck_58 (nI (15 * t')) y3 fl (nI 0 + (-1)) r'
  rw [if_pos (by decide)] at hR
  have F0 : kFA r r' := q_frw z3 (by decide) (by decide)
  rcases hx with ⟨c0, hx2, hfl⟩ | ⟨g, hgP, c0, hx2, hy3⟩
  · rw [hx2] at hC
    replace hC := hC.trans (q_opn rfl)
    rw [hfl, if_pos rfl] at hR
    rw [hx2] at hB
    rw [hfl] at hB hQ hC
    rw [hx2, hfl, hB, cUr_X1_hearAck_38 hC, hQ, qUr_hearsAck_58 hR]
    have hS := qE_hearsAck_140 (nI (15 * t')) y3 r'
    rw [show (nI (15 * t') + 9 : Int32).toNatClampNeg = 15 * t' + 9 from q_ix (k := 9) (by omega) (by omega), if_pos (by
      rw [Int32.le_iff_toInt_le, e61]
      have b85' := ri_F z2.1 (g := 1585) (lo := 0) (hi := 2147483647) (by decide)
      omega)] at hS
    rw [hS]
    obtain ⟨w1, w2, w3, w4⟩ := j_ha109 ht z1 z2 A1
    exact ⟨w1, w2, q_frt F0 w3, by rw [w4, e91]; exact hM⟩
  · have hg' : g < jN (r'.1 1606) := by rw [z3.1 1606 (by decide)]; exact hgP
    have hb := ri_pk h.1
    obtain ⟨pk, a1, -, -, -, -⟩ := J.pkt hgP
    rw [hx2, a1] at hC
    replace hC := hC.trans (q_ops rfl)
    replace hC := hC.trans (q_ste (b := b) rfl)
    rw [e4] at hC
    replace hC := hC.trans (q_ste rfl)
    rw [hy3, jI_N (by omega : g < 2147483648), (z2.2.1.2.2.1 g hg').1] at hR
    rw [hx2, a1] at hB
    have hR2 : qF_hearsAck_58 (nI (15 * t')) (nI g) fl (nI 0 + (-1)) r' = qF_hearsAck_140 (nI (15 * t')) (nI g) (if fl = 0 then r' else qF_measures 0 (r'.1 1536 - r'.2 72 g) r') := by
      by_cases cf : fl = 0
      · rw [if_pos cf] at hR ⊢
        exact qUr_hearsAck_58 hR
      · rw [if_neg cf] at hR ⊢
        exact qUr_hearsAck_58 (hR.trans (q_ste rfl))
    rw [hy3] at hQ
    rw [hx2, a1, hy3, hB, cUr_X1_hearAck_38 hC, hQ, hR2]
    obtain ⟨w1, w2, w3, w4⟩ := j_haG (fl := fl) ht z1 z2 A1 hg' (by rw [z4.2.2.2.2.2]; exact a1) (by rw [e91]; exact hM)
    exact ⟨w1, w2, q_frt F0 w3, w4⟩
/-- an ACK is heard -/
theorem j_hearAck {b t' : Nat} (ht : t' < 3600) (J : JJ n M r TL CL) (h : kI t s q z r) (A : j_ack n M r b t') (T : kTld r t') (hM : ¬ r.2 91 0 = 0) : JJ n (cF_X1_hearAck (n + 31) (some b) M) (qF_hearsAck (nI t') r) TL CL ∧ kI t s q z (qF_hearsAck (nI t') r) ∧ kFA r (qF_hearsAck (nI t') r) ∧ ¬ (qF_hearsAck (nI t') r).2 91 0 = 0 := by
  have A0 := A
  obtain ⟨h1, h2, l, hh, ee, g1, g2, g3, g4, g5, g6, k1, k2, k3, k4, k5⟩ := A
  have b61 : 0 ≤ (r.2 61 (15 * t')).toInt ∧ (r.2 61 (15 * t')).toInt ≤ 4 := (h.1.2.2.2.2.2.2.1.1 (15 * t')).1 (by omega)
  have n61 := jN_toInt b61.1
  have hb := ri_pk h.1
  have hP := ri_P h.1
  have hPN := jN_toInt hP.1
  have hB := cE_X1_hearAck (n + 31) (some b) M
  replace hB := hB.trans (q_ste (b := b) rfl)
  have hG := cE_X0_greatest b M
  rw [k1] at hG
  have hQ := qE_hearsAck (nI t') r
  replace hQ := hQ.trans (q_ste (b := nI (15 * t')) (jI_of (by rw [i_mulE (show (15 : Int32).toInt = 15 from rfl) (jI_t (show t' < 2147483648 by omega)) (by omega) (by omega)]; omega)).symm)
  rw [jI_N (by omega : 15 * t' < 2147483648), show (nI (15 * t') + 2 : Int32).toNatClampNeg = 15 * t' + 2 from q_ix (k := 2) (by omega) (by omega)] at hQ
  by_cases c : r.2 61 (15 * t') ≤ 0
  · rw [if_pos c] at hG hQ
    rw [Int32.le_iff_toInt_le, show (0 : Int32).toInt = 0 from rfl] at c
    replace hB := hB.trans (q_ste2 hG)
    have hp : cF_X1_packetAt (n + 31) (-1) M = (none, M) := by rw [cE_X1_packetAt, if_pos (by decide)]
    replace hB := hB.trans (q_ste2 hp)
    replace hB := hB.trans (q_opn rfl)
    have hC := cE_X1_hearAck_24 (n + 31) (some b) none M
    have hR := qE_hearsAck_26 (nI (15 * t')) (-1) r
    rw [if_pos rfl] at hR
    have hS := qE_hearsAck_45 (nI (15 * t')) (-1) r
    rw [hB, hC, hQ, hR, hS]
    exact j_ha25 ht J h A0 T hM (Or.inl ⟨by omega, rfl, rfl⟩)
  · rw [if_neg c] at hG hQ
    rw [Int32.le_iff_toInt_le, show (0 : Int32).toInt = 0 from rfl] at c
    replace hG := hG.trans (q_ste (b := hh) (by rw [g2]; rfl))
    have i0 : (0 : Int32).toNatClampNeg = 0 := rfl
    have hc0 : 0 < jN (r.2 61 (15 * t')) := by omega
    rw [i0, (k2 0 hc0).2] at hG
    obtain ⟨T1, T2⟩ := T 0 hc0
    have bh : 0 ≤ (r.2 61 (15 * t' + 2 + 2 * 0)).toInt ∧ (r.2 61 (15 * t' + 2 + 2 * 0)).toInt ≤ 399 := (h.1.2.2.2.2.2.2.1.1 (15 * t' + 2 + 2 * 0)).2 (by omega)
    have eg : nI (jN (r.2 61 (15 * t' + 2 + 2 * 0))) = r.2 61 (15 * t' + 2 + 2 * 0) := jI_jN bh.1
    have ng := jN_toInt bh.1
    rw [show (r.2 61 (15 * t' + 2) : Int32) = r.2 61 (15 * t' + 2 + 2 * 0) from rfl, ← eg] at hQ
    rw [← eg] at hG
    generalize jN (r.2 61 (15 * t' + 2 + 2 * 0)) = g at hQ hG ng
    have hgP : g < jN (r.1 1606) := by omega
    obtain ⟨pk, a1, a2, a3, a4, a5⟩ := J.pkt hgP
    replace hB := hB.trans (q_ste2 hG)
    replace hB := hB.trans (q_ste2 (j_patS J h.1 hgP))
    rw [a1] at hB
    replace hB := hB.trans (q_ops rfl)
    rw [jp_778 a5] at hB
    have hR := qE_hearsAck_26 (nI (15 * t')) (nI g) r
    rw [if_neg (nI_m1 (by omega)), jI_N (by omega : g < 2147483648)] at hR
    by_cases c7 : r.2 76 g = 0
    · rw [if_pos c7] at hB hR
      rw [hB, hQ, hR]
      exact j_ha25 ht J h A0 T hM (Or.inr ⟨g, hgP, hc0, a1.symm, rfl⟩)
    · rw [if_neg c7] at hB hR
      have hC := cE_X1_hearAck_24 (n + 31) (some b) (some pk) M
      have hS := qE_hearsAck_45 (nI (15 * t')) (nI g) r
      rw [hB, hC, hQ, hR, hS]
      exact j_ha25 ht J h A0 T hM (Or.inr ⟨g, hgP, hc0, a1.symm, rfl⟩)
end JHD
