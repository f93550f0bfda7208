/-! ===== THE LIKENESS: a tick ===== -/
section JTI
variable {n : Nat} {M M0 M1 M2 M3 : z_Mem} {r r1 r2 : q_R} {TL CL : List Nat} {t s q z c w w0 : Nat} {D : Int}
theorem rI_wk {t1 s1 q1 z1 : Nat} (S : y_S n M) (I : rf_I t1 s1 q1 z1 r.1 r.2) (ht : t ≤ t1) (hs : s ≤ s1) (hq : q ≤ q1) (hz : z ≤ z1) : rf_I t s q z r.1 r.2 := rI_of (q_mkR (n := n) (M := M)) (rf_w (rI_J S I) ht hs hq hz)
/-- the server acknowledges in time -/
theorem j_inTime (J : JJ n M r TL (pC ((r.1 1536).toInt + 1) r)) (I : rf_I t (s + 1) (q + 1) z r.1 r.2) (K : kP r) (N : nP D c (if r.1 1536 - r.1 1536 / 20 * 20 = 0 then 1 else 0) r) (A : nA 0 r) (hc : c ≤ 512) (x : Int32) : ∃ r', JJ n (cF_X8_acknowledgeInTime (n + 28) M) r' TL (pC ((r.1 1536).toInt + 1) r') ∧ rf_I t s q z r'.1 r'.2 ∧ kP r' ∧ nP D c 0 r' ∧ nA 1 r' ∧ r'.1 1536 = r.1 1536 ∧ r'.1 1554 = r.1 1554 ∧ r'.2 56 = r.2 56 ∧ qF_passes_56 x x r = qF_passes_134 r' := by
  obtain ⟨t61, t59⟩ := ri_tel I
  have bn := ri_now I
  have b75 := ri_F I (g := 1575) (lo := -1) (hi := 1) (by decide)
  have hb := (nC_b N.2.2.2.2.1 I hc).2.2
  have n59 := jN_toInt t59.1
  have Iw : rf_I t s q z r.1 r.2 := rI_wk J.1 I (Nat.le_refl _) (by omega) (by omega) (Nat.le_refl _)
  have hQ := qE_passes_56 x x r
  rw [if_pos (Int32.le_refl _)] at hQ
  have hB := cE_X8_acknowledgeInTime (n + 28) M
  rw [s_1024_28 J.1] at hB
  replace hB := hB.trans (q_ste (b := n + 1) rfl)
  rw [js_645_1 J, js_1037_28 J] at hB
  have nw : ∀ {w}, nP D c w r → nP D c 0 r := fun h => nP_w h (Nat.zero_le _)
  by_cases X : r.1 1562 = 1 ∧ ¬ r.1 1575 = -1
  · obtain ⟨X1, X2⟩ := X
    rw [if_pos X1, if_neg X2] at hQ
    have c75 := i_ne X2 rfl (show (-1 : Int32).toInt = -1 from rfl)
    have n75 := jN_toInt (x := r.1 1575) (by omega)
    have i75 : r.1 1575 = nI (jN (r.1 1575)) := (jI_jN (by omega)).symm
    have hcl : ¬ r.1 1577 = 0 := fun e => by
      rcases (N.2.2.2.1.2.2.2.1 e).2.2 with h | h
      · rw [X1] at h; exact absurd h (by decide)
      · rw [X1] at h; exact absurd h (by decide)
    -- it acknowledges
    have ack : (r.1 1536 - r.1 1536 / 20 * 20 = 0 ∨ ¬ r.1 1574 = -1) → JJ n (cF_X8_acknowledge (n + 28) M) (qF_acknowledges r) TL (pC ((r.1 1536).toInt + 1) (qF_acknowledges r)) ∧ rf_I t s q z (qF_acknowledges r).1 (qF_acknowledges r).2 ∧ kP (qF_acknowledges r) ∧ nP D c 0 (qF_acknowledges r) ∧ nA 1 (qF_acknowledges r) ∧ (qF_acknowledges r).1 1536 = r.1 1536 ∧ (qF_acknowledges r).1 1554 = r.1 1554 ∧ (qF_acknowledges r).2 56 = r.2 56 := fun hd => by
      have F := q_ackFr (r := r) t61.1 t61.2
      have b41 := N.2.2.2.2.2.1.1 (jN (r.1 1575)) (by omega)
      refine ⟨j_ackS J X1 (p := jN (r.1 1575)) (by omega) i75 t61.1 t61.2 t59.1 (by omega) N.2.2.1.2.2.1 ?_, (rI_acknowledges J.1 I (by omega)).1, kP_fr F (by decide) (by decide) K, nP_ack (x := r.1 1573) (by rw [uf_id rfl]; exact N) ?_ I t61.2 t59.2 (p := jN (r.1 1575)) (by omega) i75 X1 hcl, ⟨fun _ => Or.inl (q_ack74 t61.1 t61.2), fun _ => q_ack74 t61.1 t61.2, fun _ => q_ack74 t61.1 t61.2, nG_c (F.2 64 (by decide)) (F.2 65 (by decide)) A.2.2.2⟩, F.1 1536 (by decide), F.1 1554 (by decide), F.2 56 (by decide)⟩
      · rw [i_addE (x := r.1 1536) (y := r.2 41 (jN (r.1 1575))) rfl rfl (by omega) (by omega)]; omega
      · unfold nFl
        rcases hd with hd | hd
        · rw [if_pos hd]; omega
        · rw [if_neg hd]; omega
    have no : r.1 1574 = -1 ∨ (r.1 1536).toInt + 1 ≤ (r.1 1574).toInt → nA 1 r := fun h => ⟨fun _ => h, A.2.1, A.2.2⟩
    have h120 : r.1 1574 = -1 ∨ (r.1 1536).toInt + 1 ≤ (r.1 1574).toInt → qF_passes_56 x x r = qF_passes_120 r → ∃ r', JJ n (cF_X8_acknowledgeInTime (n + 28) M) r' TL (pC ((r.1 1536).toInt + 1) r') ∧ rf_I t s q z r'.1 r'.2 ∧ kP r' ∧ nP D c 0 r' ∧ nA 1 r' ∧ r'.1 1536 = r.1 1536 ∧ r'.1 1554 = r.1 1554 ∧ r'.2 56 = r.2 56 ∧ qF_passes_56 x x r = qF_passes_134 r' := fun h hq => by
      have hne : ¬ r.1 1536 = r.1 1574 := fun e => by
        rcases h with h | h
        · have := congrArg Int32.toInt (e.trans h)
          rw [show (-1 : Int32).toInt = -1 from rfl] at this; omega
        · rw [e] at h; omega
      rw [if_neg hne] at hB
      replace hB := hB.trans (q_ste (b := n + 1) rfl)
      rw [js_645_1 J] at hB
      rw [qE_passes_120] at hq
      by_cases c20 : r.1 1536 - r.1 1536 / 20 * 20 = 0
      · rw [if_pos c20] at hB hq
        rw [hB]
        obtain ⟨k1, k2, k3, k4, k5, k6, k7, k8⟩ := ack (Or.inl c20)
        refine ⟨qF_acknowledges r, k1, k2, k3, k4, k5, k6, k7, k8, ?_⟩
        rw [hq, qE_passes_130]; rfl
      · rw [if_neg c20] at hB hq
        rw [hB]
        exact ⟨r, J, Iw, K, nw N, no h, rfl, rfl, rfl, hq⟩
    by_cases c1 : r.1 1574 = -1
    · rw [if_pos c1] at hQ
      exact h120 (Or.inl c1) (qUr_passes_56 hQ)
    · rw [if_neg c1] at hQ
      have hA := A.1 X1
      have hA2 : (r.1 1536).toInt ≤ (r.1 1574).toInt := by
        rcases hA with h | h
        · exact absurd h c1
        · omega
      by_cases c2 : r.1 1574 ≤ r.1 1536
      · rw [if_pos c2] at hQ
        have c2' := i_le c2 rfl rfl
        have e : r.1 1536 = r.1 1574 := Int32.toInt_inj.mp (by omega)
        rw [if_pos e] at hB
        replace hB := hB.trans (q_ste rfl)
        rw [hB]
        obtain ⟨k1, k2, k3, k4, k5, k6, k7, k8⟩ := ack (Or.inr c1)
        refine ⟨qF_acknowledges r, k1, k2, k3, k4, k5, k6, k7, k8, ?_⟩
        rw [qUr_passes_56 hQ, qE_passes_130]; rfl
      · rw [if_neg c2] at hQ
        have c2' := i_nle c2 rfl rfl
        exact h120 (Or.inr (by omega)) (qUr_passes_56 hQ)
  · have hM : cF_X8_acknowledgeInTime (n + 28) M = M := by
      have h0 := c_ack0 J X
      rw [hB]
      split
      · exact h0
      · refine (q_ste (b := n + 1) rfl).trans ?_
        split
        · exact h0
        · rfl
    have hq : qF_passes_56 x x r = qF_passes_134 r := by
      by_cases c1 : r.1 1562 = 1
      · rw [if_pos c1] at hQ
        by_cases c2 : r.1 1575 = -1
        · rw [if_pos c2] at hQ; exact qUr_passes_56 hQ
        · exact absurd ⟨c1, c2⟩ X
      · rw [if_neg c1] at hQ; exact qUr_passes_56 hQ
    rw [hM]
    refine ⟨r, J, Iw, K, nw N, ⟨fun e => Or.inl ?_, A.2.1, A.2.2⟩, rfl, rfl, rfl, hq⟩
    by_cases c2 : r.1 1575 = -1
    · exact A.2.1 c2
    · exact absurd ⟨e, c2⟩ X
/-- what looking after and sending leave alone -/
def nB (v b b9 : Int32) (g g0 : Nat → Int32) (r : q_R) : Prop := nA 1 r ∧ r.1 1536 = v ∧ r.1 1554 = b ∧ r.1 1559 = b9 ∧ r.2 56 = g ∧ r.2 60 = g0
theorem nB_fr {v b b9 : Int32} {g g0 : Nat → Int32} {Fs Rs : List Nat} (H : q_fr Fs Rs r r1) (h1 : ∀ g, g ∈ [1562, 1574, 1575, 1536, 1554, 1559] → g ∉ Fs) (h2 : ∀ x, x ∈ [56, 60, 64, 65] → x ∉ Rs) (h : nB v b b9 g g0 r) : nB v b b9 g g0 r1 := by
  obtain ⟨a1, a2, a3, a4, a5, a6⟩ := h
  exact ⟨nA_fr H (fun g hg => h1 g (by revert hg; revert g; decide)) a1 (fun x hx => h2 x (by revert hx; revert x; decide)), (H.1 _ (h1 1536 (by decide))).trans a2, (H.1 _ (h1 1554 (by decide))).trans a3, (H.1 _ (h1 1559 (by decide))).trans a4, (H.2 _ (h2 56 (by decide))).trans a5, (H.2 _ (h2 60 (by decide))).trans a6⟩
theorem nB_St {v b b9 : Int32} {g g0 : Nat → Int32} {Ph : q_R → Prop} (h : kSt t s q z Ph) : kSt t s q z (fun r => Ph r ∧ nB v b b9 g g0 r) := by
  refine ⟨fun r x j v hx ⟨h1, h2⟩ => ⟨h.1 r x j v hx h1, ?_⟩, fun r P sN a m bb hk hP hP4 hs ham ⟨h1, h2⟩ => ⟨h.2.1 r P sN a m bb hk hP hP4 hs ham h1, ?_⟩, fun r l j v ⟨h1, h2⟩ => ⟨h.2.2 r l j v h1, ?_⟩⟩
  · refine nB_fr (q_frua (Fs := []) (Rs := [x]) (List.mem_singleton.mpr rfl) q_fr0) (fun _ _ => List.not_mem_nil) (fun y hy hc => ?_) h2
    have e := List.mem_singleton.mp hc
    rw [e] at hy
    exact (show ∀ x, x ∈ [96, 105, 106] → x ∈ [56, 60, 64, 65] → False from by decide) x hx hy
  · rw [q_sendsE hP hP4 hs ham]
    obtain ⟨f1, f2, f3, f4, f5⟩ := q_snF (r := r) (P := P) (sN := sN) (a := a) (m := m) (b := bb)
    have F : q_fr [1606] [70, 71, 72, 73, 74, 75, 78, 79, 80, 82, 83, 93, 95] r (q_sn P sN a m bb r) := ⟨fun g hg => f1 g (fun e => hg (List.mem_singleton.mpr e)), f3⟩
    exact nB_fr (q_putdF hP4) (by decide) (by decide) (nB_fr F (by decide) (by decide) h2)
  · exact nB_fr (Fs := [1590]) (Rs := [67]) (q_frua (by decide) (q_fruf (by decide) q_fr0)) (by decide) (by decide) h2
theorem nB_Lk {v b b9 : Int32} {g g0 : Nat → Int32} {Ph : q_R → Prop} (h : kLk t s q z Ph) : kLk t s q z (fun r => Ph r ∧ nB v b b9 g g0 r) := by
  refine ⟨nB_St h.1, fun r r1 F ⟨h1, h2⟩ => ⟨h.2.1 r r1 F h1, nB_fr F (by decide) (by decide) h2⟩, fun r a1 a2 a3 ⟨h1, h2⟩ => ⟨h.2.2.1 r a1 a2 a3 h1, ?_⟩, fun r a1 ⟨h1, h2⟩ => ⟨h.2.2.2.1 r a1 h1, nB_fr (Fs := [1577]) (Rs := []) (q_fruf (by decide) q_fr0) (by decide) (by decide) h2⟩, fun r ⟨h1, h2⟩ a1 => h.2.2.2.2 r h1 a1⟩
  have ck : (uf r 1581 (r.1 1581 * 2)).1 1579 = 0 ∨ (uf r 1581 (r.1 1581 * 2)).1 1579 = 1 := by
    rw [uf_n (by decide)]; exact ri_ck a3.1
  rw [q_hello _ ck]
  refine nB_fr (q_frt (q_frua (Fs := [1551, 1580, 1581]) (Rs := [46, 50, 51, 52, 53, 54, 106]) (by decide) (q_fruf (by decide) (q_fruf (by decide) q_fr0))) (q_frw (q_putsF (by decide)) (by decide) (by decide))) (by decide) (by decide) h2
/-- the client has not begun: the time brings nothing -/
theorem j_look0 (J : JJ n M r TL CL) (h : r.1 1577 = 0) : cF_X1_lookAfter (n + 31) M = M ∧ qF_passes_134 r = q_end r ∧ qF_sendsAll r = ua (ua r 105 0 0) 105 1 0 := by
  have n1 : ¬ r.1 1577 = 1 := by rw [h]; decide
  have n2 : ¬ r.1 1577 = 2 := by rw [h]; decide
  have n3 : ¬ r.1 1577 = 3 := by rw [h]; decide
  refine ⟨?_, ?_, ?_⟩
  · rw [cE_X1_lookAfter, js_135_31 J, if_neg n1, if_neg n2, cE_X1_lookAfter_50, js_135_31 J, if_neg n1, cE_X1_lookAfter_94, js_135_31 J, if_neg n3]
  · rw [qE_passes_134, if_neg n1, if_neg n2, qE_passes_170, if_neg n1, qE_passes_208, if_neg n3, q_235]
  · have hQ := qE_sendsAll r
    replace hQ := hQ.trans (q_ste (b := ua r 105 0 0) rfl)
    replace hQ := hQ.trans (q_ste (b := ua (ua r 105 0 0) 105 1 0) rfl)
    rw [if_neg (show ¬ (ua (ua r 105 0 0) 105 1 0).1 1577 = 2 from n2), if_neg (show ¬ (ua (ua r 105 0 0) 105 1 0).1 1577 = 1 from n1)] at hQ
    rw [hQ, qE_sendsAll_42, qE_sendsAll_43, q_44z]
end JTI
