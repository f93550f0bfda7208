/-! ===== THE LIKENESS: all that arrives at the server (2) ===== -/
section JSB
variable {n : Nat} {M M0 M1 M2 M3 : z_Mem} {r r1 r2 : q_R} {TL CL A B : List Nat} {t s q z k c w : Nat} {d D : Int}
theorem jSV_d {d2 : Int} (V : jSV d r) (h : d2 ≤ d) : jSV d2 r := by
  obtain ⟨v1, v2, v3, v4, v5, v6, v7, v8⟩ := V
  exact ⟨v1, v2, v3, v4, fun p hp => by have := v5 p hp; omega, v6, v7, v8⟩
theorem j_srvAll {δ : Int} (hδ : δ ≤ 3) {L : Nat} {v : Int32} {f : Nat → Int32} (hc : c ≤ 512) (hL : L ≤ 1300) : ∀ m k (M : z_Mem) (r : q_R), k + m = L → jN (r.1 1554) = L → r.1 1536 = v → r.2 56 = f → JJ n M r (dl f v k L) (pC v.toInt r) → rf_I t (s + 1 + (rf_c (fun i => decide (f i = v)) L - rf_c (fun i => decide (f i = v)) k)) (q + 1 + (rf_c (fun i => decide (f i = v)) L - rf_c (fun i => decide (f i = v)) k)) z r.1 r.2 → kP r → nP D c (w + (rf_c (fun i => decide (f i = v)) L - rf_c (fun i => decide (f i = v)) k)) r → nA δ r → ∃ r', JJ n (cF_X8_hearAll_11 (n + 28) (nI (dl f v k L).length) M) r' (dl f v L L) (pC v.toInt r') ∧ rf_I t (s + 1) (q + 1) z r'.1 r'.2 ∧ kP r' ∧ nP D c w r' ∧ nA δ r' ∧ r'.1 1536 = v ∧ r'.2 56 = f ∧ jN (r'.1 1554) = L ∧ qF_passes_12 (nI k) r = qF_passes_56 (r'.1 1559) 0 r' := by
  intro m
  induction m with
  | zero =>
    intro k M r hk h54 hv hf J I K N NA
    have b54 := ri_F I (g := 1554) (lo := 0) (hi := 1300) (by decide)
    have n54 := jN_toInt b54.1
    have e54 : r.1 1554 = nI L := by rw [← h54]; exact (jI_jN b54.1).symm
    have ek : k = L := by omega
    subst ek
    rw [Nat.sub_self, Nat.add_zero, Nat.add_zero] at I
    rw [Nat.sub_self, Nat.add_zero] at N
    have hnd : ∀ i, i ∈ dl f v k k → ¬ r.2 56 i = v := by rw [hf]; exact (dl_end (Nat.le_refl _)).2
    have hq : qF_passes_12 (nI k) r = qF_passes_56 (r.1 1559) 0 r := by
      have hB := qE_passes_12 (nI k) r
      rw [e54, if_pos (Int32.le_refl _)] at hB
      exact qUr_passes_12 (hB.trans (q_ste rfl))
    have hM : cF_X8_hearAll_11 (n + 28) (nI (dl f v k k).length) M = M := by
      have hB := cE_X8_hearAll_11 (n + 28) (nI (dl f v k k).length) M
      by_cases c0 : nI (dl f v k k).length ≤ 0
      · rw [if_pos c0] at hB
        exact cUr_X8_hearAll_11 hB
      · rw [if_neg c0, s_1024_28 J.1] at hB
        replace hB := hB.trans (q_ste (b := n + 1) rfl)
        replace hB := hB.trans (q_ste (b := n + 1) rfl)
        rw [s_642_1 J.1] at hB
        replace hB := hB.trans (q_ste (b := n + 6) rfl)
        rw [js_645_1 J, hv, (j_takeT J v).1 hnd] at hB
        replace hB := hB.trans (q_ste2 rfl)
        replace hB := hB.trans (q_opn rfl)
        exact cUr_X8_hearAll_11 hB
    exact ⟨r, by rw [hM]; exact J, I, K, N, NA, hv, hf, h54, hq⟩
  | succ m ih =>
    intro k M r hk h54 hv hf J I K N NA
    have b54 := ri_F I (g := 1554) (lo := 0) (hi := 1300) (by decide)
    have n54 := jN_toInt b54.1
    have e54 : r.1 1554 = nI L := by rw [← h54]; exact (jI_jN b54.1).symm
    have ek : (nI k).toNatClampNeg = k := jI_N (by omega)
    have hB := qE_passes_12 (nI k) r
    rw [e54, if_neg (fun h => absurd ((jI_le (by omega) (by omega)).mp h) (by omega)), ek, hv, hf] at hB
    have e1 : nI k + 1 = nI (k + 1) := by rw [jI_1, jI_add (by show k + 1 < _; omega)]
    by_cases c2 : f k = v
    · -- something arrives
      have es : rf_c (fun i => decide (f i = v)) (k + 1) = rf_c (fun i => decide (f i = v)) k + 1 := by
        show rf_c (fun i => decide (f i = v)) k + (if decide (f k = v) = true then 1 else 0) = _
        rw [if_pos (decide_eq_true c2)]
      have hl := rf_c_lem (p := fun i => decide (f i = v)) (show k + 1 ≤ L by omega)
      obtain ⟨d, hd⟩ : ∃ d, rf_c (fun i => decide (f i = v)) L - rf_c (fun i => decide (f i = v)) k = d + 1 := ⟨_, (Nat.succ_pred_eq_of_pos (show 0 < rf_c (fun i => decide (f i = v)) L - rf_c (fun i => decide (f i = v)) k by omega)).symm⟩
      have hd2 : rf_c (fun i => decide (f i = v)) L - rf_c (fun i => decide (f i = v)) (k + 1) = d := by omega
      rw [hd] at I N
      rw [if_pos c2] at hB
      obtain ⟨A, B, x1, x2, x3⟩ := dl_split (L := L) (k := k) (by omega) c2
      have TK := (j_takeT J v).2 A k B x1 (by rw [hf]; exact x3) (by rw [hf]; exact c2)
      rw [x1] at J ⊢
      obtain ⟨mm, g1, g2, g3, J2⟩ := J.takeT
      rw [g1] at TK
      -- what arrives
      have b55 := ri_A I (x := 55) (lo := 0) (hi := 1299) (by decide) k
      have n55 := jN_toInt b55.1
      have i55 := jI_jN b55.1
      have b5 := ri_A I (x := 54) (lo := 0) (hi := 1) (by decide) (jN (r.2 55 k))
      have n5 := jN_toInt b5.1
      have hk54 : k < jN (r.1 1554) := by omega
      have hd2k := (N.2.2.1.2.1 k hk54).2
      have hH3 := N.2.1.2.2.1 k hk54
      have hD1 := N.2.2.1.1 _ g3
      rw [hf, c2, ← hv] at hd2k hH3
      obtain ⟨t61, t59⟩ := ri_tel (s := s + 1 + d) (q := q + 1 + d) I
      have h71 : r.2 52 (jN (r.2 55 k)) = 2 → r.2 71 (jN (r.2 53 (jN (r.2 55 k)))) = nI (jN (r.2 54 (jN (r.2 55 k)))) := fun e => by
        obtain ⟨y1, y2⟩ := hD1 e
        rw [y2, (K.1.2.2.1 _ y1).1]; rfl
      have hpl : jN (r.2 54 (jN (r.2 55 k))) < 2 := by omega
      have JS' : JJ n (cF_X8_hear (n + 28) (some mm) (j_tk M (n + 6) (n + 7) (A ++ k :: B).length A.length)) (qF_arrivesAtServer (nI (jN (r.2 55 k))) r) (A ++ B) (pC v.toInt (qF_arrivesAtServer (nI (jN (r.2 55 k))) r)) := by
        refine j_hearS J2 I ?_ g2 (by omega) hpl (jI_jN b5.1).symm h71 (fun e e2 => (N.2.2.2.1.2.2.1 e2).1 _ g3 e) N.2.2.2.1.1
        refine jSV_d (nP_SV N I hc t61.2) ?_
        rw [hv]; omega
      have NS : nP D c (w + d) (qF_arrivesAtServer (nI (jN (r.2 55 k))) r) := nP_arr N (by omega) I t61.2 t59.2 g3 (by omega) hpl (jI_jN b5.1).symm hH3 (fun e => ⟨h71 e, hd2k e⟩)
      have NA' := nA_arr NA hδ I t61.2 N.2.2.2.1.1 (th := jN (r.2 55 k)) (by omega) hpl h71
      have IS := rI_arrivesAtServer (t := t) (s := s + 1 + d) (q := q + 1 + d) (z := z) J.1 I (x := nI (jN (r.2 55 k))) (by rw [jI_t (by omega)]; omega)
      have FS := q_arrF (th := jN (r.2 55 k)) I t61.2 (by omega)
      have KS := kP_fr FS (by decide) (by decide) K
      have eR : r.2 55 k = nI (jN (r.2 55 k)) := i55.symm
      rw [eR] at hB
      generalize qF_arrivesAtServer (nI (jN (r.2 55 k))) r = r' at JS' NS NA' IS FS KS hB
      have f36 : r'.1 1536 = v := (FS.1 1536 (by decide)).trans hv
      have f56 : r'.2 56 = f := (FS.2 56 (by decide)).trans hf
      have f54 : jN (r'.1 1554) = L := by rw [FS.1 1554 (by decide)]; exact h54
      rw [← x2] at JS'
      obtain ⟨r9, y1, y2, y3, y4, y4b, y5, y6, y7, y8⟩ := ih (k + 1) _ r' (by omega) f54 f36 f56 JS' (by rw [hd2]; exact IS.1) KS (by rw [hd2]; exact NS) NA'
      refine ⟨r9, ?_, y2, y3, y4, y4b, y5, y6, y7, ?_⟩
      · have hC := cE_X8_hearAll_11 (n + 28) (nI (A ++ k :: B).length) M
        have ln : (A ++ k :: B).length < 2147483648 := by have := J.2.2.2.2.2.2.1.2.1; omega
        have c0 : ¬ nI (A ++ k :: B).length ≤ 0 := jI_nle0 (by rw [dl_len]; omega) ln
        rw [if_neg c0, s_1024_28 J.1] at hC
        replace hC := hC.trans (q_ste (b := n + 1) rfl)
        replace hC := hC.trans (q_ste (b := n + 1) rfl)
        rw [s_642_1 J.1] at hC
        replace hC := hC.trans (q_ste (b := n + 6) rfl)
        rw [js_645_1 J, hv, TK] at hC
        replace hC := hC.trans (q_ste2 rfl)
        replace hC := hC.trans (q_ops rfl)
        replace hC := hC.trans (q_ste rfl)
        have el : nI (A ++ k :: B).length + (-1) = nI (A ++ B).length := by rw [dl_len (A := A) (B := B) (k := k)]; exact j_p1 (by rw [dl_len] at ln; omega)
        rw [el] at hC
        replace hC := hC.trans (q_ste rfl)
        rw [cUl_X8_hearAll_11 hC, ← x2]
        exact y1
      · replace hB := hB.trans (q_ste rfl)
        rw [qE_passes_43, e1] at hB
        replace hB := hB.trans (q_ste rfl)
        rw [qUl_passes_12 hB]
        exact y8
    · have es : rf_c (fun i => decide (f i = v)) (k + 1) = rf_c (fun i => decide (f i = v)) k := by
        show rf_c (fun i => decide (f i = v)) k + (if decide (f k = v) = true then 1 else 0) = _
        rw [if_neg (by rw [decide_eq_true_eq]; exact c2), Nat.add_zero]
      rw [← dl_skip c2] at J ⊢
      rw [← es] at I N
      rw [if_neg c2, qE_passes_43, e1] at hB
      replace hB := hB.trans (q_ste rfl)
      rw [qUl_passes_12 hB]
      exact ih (k + 1) M r (by omega) h54 hv hf J I K N NA
end JSB
